theorem dL_below_0 : decode cL_below 0 = .ok (.iload_n 0, 1) := by decide +kernel
theorem dL_below_1 : decode cL_below 1 = .ok (.ldc 7, 2) := by decide +kernel
theorem dL_below_3 : decode cL_below 3 = .ok (.iand, 1) := by decide +kernel
theorem dL_below_4 : decode cL_below 4 = .ok (.iload_n 1, 1) := by decide +kernel
theorem dL_below_5 : decode cL_below 5 = .ok (.irem, 1) := by decide +kernel
theorem dL_below_6 : decode cL_below 6 = .ok (.ireturn, 1) := by decide +kernel
theorem dL_cell_0 : decode cL_cell 0 = .ok (.iload_n 1, 1) := by decide +kernel
theorem dL_cell_1 : decode cL_cell 1 = .ok (.aload_n 0, 1) := by decide +kernel
theorem dL_cell_2 : decode cL_cell 2 = .ok (.arraylength, 1) := by decide +kernel
theorem dL_cell_3 : decode cL_cell 3 = .ok (.if_icmp .ge 9, 3) := by decide +kernel
theorem dL_cell_6 : decode cL_cell 6 = .ok (.aload_n 0, 1) := by decide +kernel
theorem dL_cell_7 : decode cL_cell 7 = .ok (.iload_n 1, 1) := by decide +kernel
theorem dL_cell_8 : decode cL_cell 8 = .ok (.iaload, 1) := by decide +kernel
theorem dL_cell_9 : decode cL_cell 9 = .ok (.goto 9, 3) := by decide +kernel
theorem dL_cell_12 : decode cL_cell 12 = .ok (.ldc 8, 2) := by decide +kernel
theorem dL_cell_14 : decode cL_cell 14 = .ok (.iload_n 1, 1) := by decide +kernel
theorem dL_cell_15 : decode cL_cell 15 = .ok (.iconst 3, 1) := by decide +kernel
theorem dL_cell_16 : decode cL_cell 16 = .ok (.iadd, 1) := by decide +kernel
theorem dL_cell_17 : decode cL_cell 17 = .ok (.imul, 1) := by decide +kernel
theorem dL_cell_18 : decode cL_cell 18 = .ok (.ireturn, 1) := by decide +kernel
theorem dL_build_0 : decode cL_build 0 = .ok (.new 9, 3) := by decide +kernel
theorem dL_build_3 : decode cL_build 3 = .ok (.dup, 1) := by decide +kernel
theorem dL_build_4 : decode cL_build 4 = .ok (.invokespecial 11, 3) := by decide +kernel
theorem dL_build_7 : decode cL_build 7 = .ok (.astore_n 2, 1) := by decide +kernel
theorem dL_build_8 : decode cL_build 8 = .ok (.iconst 0, 1) := by decide +kernel
theorem dL_build_9 : decode cL_build 9 = .ok (.istore_n 3, 1) := by decide +kernel
theorem dL_build_10 : decode cL_build 10 = .ok (.iload_n 3, 1) := by decide +kernel
theorem dL_build_11 : decode cL_build 11 = .ok (.bipush 12, 2) := by decide +kernel
theorem dL_build_13 : decode cL_build 13 = .ok (.if_icmp .ge 48, 3) := by decide +kernel
theorem dL_build_16 : decode cL_build 16 = .ok (.iconst 1, 1) := by decide +kernel
theorem dL_build_17 : decode cL_build 17 = .ok (.aload_n 1, 1) := by decide +kernel
theorem dL_build_18 : decode cL_build 18 = .ok (.iload_n 3, 1) := by decide +kernel
theorem dL_build_19 : decode cL_build 19 = .ok (.iconst 4, 1) := by decide +kernel
theorem dL_build_20 : decode cL_build 20 = .ok (.irem, 1) := by decide +kernel
theorem dL_build_21 : decode cL_build 21 = .ok (.invokestatic 12, 3) := by decide +kernel
theorem dL_build_24 : decode cL_build 24 = .ok (.iload_n 3, 1) := by decide +kernel
theorem dL_build_25 : decode cL_build 25 = .ok (.ishr, 1) := by decide +kernel
theorem dL_build_26 : decode cL_build 26 = .ok (.bipush 9, 2) := by decide +kernel
theorem dL_build_28 : decode cL_build 28 = .ok (.invokestatic 18, 3) := by decide +kernel
theorem dL_build_31 : decode cL_build 31 = .ok (.iadd, 1) := by decide +kernel
theorem dL_build_32 : decode cL_build 32 = .ok (.istore 4, 2) := by decide +kernel
theorem dL_build_34 : decode cL_build 34 = .ok (.aload_n 0, 1) := by decide +kernel
theorem dL_build_35 : decode cL_build 35 = .ok (.iload_n 3, 1) := by decide +kernel
theorem dL_build_36 : decode cL_build 36 = .ok (.iload 4, 2) := by decide +kernel
theorem dL_build_38 : decode cL_build 38 = .ok (.invokevirtual 22, 3) := by decide +kernel
theorem dL_build_41 : decode cL_build 41 = .ok (.iconst 3, 1) := by decide +kernel
theorem dL_build_42 : decode cL_build 42 = .ok (.if_icmp .eq 5, 3) := by decide +kernel
theorem dL_build_45 : decode cL_build 45 = .ok (.aconst_null, 1) := by decide +kernel
theorem dL_build_46 : decode cL_build 46 = .ok (.areturn, 1) := by decide +kernel
theorem dL_build_47 : decode cL_build 47 = .ok (.aload_n 2, 1) := by decide +kernel
theorem dL_build_48 : decode cL_build 48 = .ok (.getfield 27, 3) := by decide +kernel
theorem dL_build_51 : decode cL_build 51 = .ok (.iload_n 3, 1) := by decide +kernel
theorem dL_build_52 : decode cL_build 52 = .ok (.iload 4, 2) := by decide +kernel
theorem dL_build_54 : decode cL_build 54 = .ok (.iastore, 1) := by decide +kernel
theorem dL_build_55 : decode cL_build 55 = .ok (.iinc 3 1, 3) := by decide +kernel
theorem dL_build_58 : decode cL_build 58 = .ok (.goto (-48), 3) := by decide +kernel
theorem dL_build_61 : decode cL_build 61 = .ok (.aload_n 1, 1) := by decide +kernel
theorem dL_build_62 : decode cL_build 62 = .ok (.iconst 4, 1) := by decide +kernel
theorem dL_build_63 : decode cL_build 63 = .ok (.invokestatic 12, 3) := by decide +kernel
theorem dL_build_66 : decode cL_build 66 = .ok (.bipush 60, 2) := by decide +kernel
theorem dL_build_68 : decode cL_build 68 = .ok (.invokestatic 18, 3) := by decide +kernel
theorem dL_build_71 : decode cL_build 71 = .ok (.istore_n 3, 1) := by decide +kernel
theorem dL_build_72 : decode cL_build 72 = .ok (.iconst 0, 1) := by decide +kernel
theorem dL_build_73 : decode cL_build 73 = .ok (.istore 4, 2) := by decide +kernel
theorem dL_build_75 : decode cL_build 75 = .ok (.iload 4, 2) := by decide +kernel
theorem dL_build_77 : decode cL_build 77 = .ok (.iload_n 3, 1) := by decide +kernel
theorem dL_build_78 : decode cL_build 78 = .ok (.if_icmp .ge 110, 3) := by decide +kernel
theorem dL_build_81 : decode cL_build 81 = .ok (.bipush 96, 2) := by decide +kernel
theorem dL_build_83 : decode cL_build 83 = .ok (.aload_n 1, 1) := by decide +kernel
theorem dL_build_84 : decode cL_build 84 = .ok (.iconst 4, 1) := by decide +kernel
theorem dL_build_85 : decode cL_build 85 = .ok (.iload 4, 2) := by decide +kernel
theorem dL_build_87 : decode cL_build 87 = .ok (.iconst 3, 1) := by decide +kernel
theorem dL_build_88 : decode cL_build 88 = .ok (.irem, 1) := by decide +kernel
theorem dL_build_89 : decode cL_build 89 = .ok (.iadd, 1) := by decide +kernel
theorem dL_build_90 : decode cL_build 90 = .ok (.invokestatic 12, 3) := by decide +kernel
theorem dL_build_93 : decode cL_build 93 = .ok (.iload 4, 2) := by decide +kernel
theorem dL_build_95 : decode cL_build 95 = .ok (.iconst 3, 1) := by decide +kernel
theorem dL_build_96 : decode cL_build 96 = .ok (.idiv, 1) := by decide +kernel
theorem dL_build_97 : decode cL_build 97 = .ok (.ishr, 1) := by decide +kernel
theorem dL_build_98 : decode cL_build 98 = .ok (.sipush 192, 3) := by decide +kernel
theorem dL_build_101 : decode cL_build 101 = .ok (.invokestatic 18, 3) := by decide +kernel
theorem dL_build_104 : decode cL_build 104 = .ok (.iadd, 1) := by decide +kernel
theorem dL_build_105 : decode cL_build 105 = .ok (.istore 5, 2) := by decide +kernel
theorem dL_build_107 : decode cL_build 107 = .ok (.iconst 1, 1) := by decide +kernel
theorem dL_build_108 : decode cL_build 108 = .ok (.aload_n 1, 1) := by decide +kernel
theorem dL_build_109 : decode cL_build 109 = .ok (.bipush 7, 2) := by decide +kernel
theorem dL_build_111 : decode cL_build 111 = .ok (.invokestatic 12, 3) := by decide +kernel
theorem dL_build_114 : decode cL_build 114 = .ok (.iload 4, 2) := by decide +kernel
theorem dL_build_116 : decode cL_build 116 = .ok (.bipush 20, 2) := by decide +kernel
theorem dL_build_118 : decode cL_build 118 = .ok (.irem, 1) := by decide +kernel
theorem dL_build_119 : decode cL_build 119 = .ok (.ishr, 1) := by decide +kernel
theorem dL_build_120 : decode cL_build 120 = .ok (.aload_n 1, 1) := by decide +kernel
theorem dL_build_121 : decode cL_build 121 = .ok (.bipush 7, 2) := by decide +kernel
theorem dL_build_123 : decode cL_build 123 = .ok (.invokestatic 12, 3) := by decide +kernel
theorem dL_build_126 : decode cL_build 126 = .ok (.iconst 2, 1) := by decide +kernel
theorem dL_build_127 : decode cL_build 127 = .ok (.invokestatic 18, 3) := by decide +kernel
theorem dL_build_130 : decode cL_build 130 = .ok (.ifCond .ne 8, 3) := by decide +kernel
theorem dL_build_133 : decode cL_build 133 = .ok (.bipush 9, 2) := by decide +kernel
theorem dL_build_135 : decode cL_build 135 = .ok (.goto 4, 3) := by decide +kernel
theorem dL_build_138 : decode cL_build 138 = .ok (.iconst 2, 1) := by decide +kernel
theorem dL_build_139 : decode cL_build 139 = .ok (.invokestatic 18, 3) := by decide +kernel
theorem dL_build_142 : decode cL_build 142 = .ok (.iadd, 1) := by decide +kernel
theorem dL_build_143 : decode cL_build 143 = .ok (.istore 6, 2) := by decide +kernel
theorem dL_build_145 : decode cL_build 145 = .ok (.aload_n 0, 1) := by decide +kernel
theorem dL_build_146 : decode cL_build 146 = .ok (.iload 5, 2) := by decide +kernel
theorem dL_build_148 : decode cL_build 148 = .ok (.bipush 24, 2) := by decide +kernel
theorem dL_build_150 : decode cL_build 150 = .ok (.irem, 1) := by decide +kernel
theorem dL_build_151 : decode cL_build 151 = .ok (.iload 5, 2) := by decide +kernel
theorem dL_build_153 : decode cL_build 153 = .ok (.bipush 24, 2) := by decide +kernel
theorem dL_build_155 : decode cL_build 155 = .ok (.idiv, 1) := by decide +kernel
theorem dL_build_156 : decode cL_build 156 = .ok (.iload 6, 2) := by decide +kernel
theorem dL_build_158 : decode cL_build 158 = .ok (.invokevirtual 31, 3) := by decide +kernel
theorem dL_build_161 : decode cL_build 161 = .ok (.aload_n 2, 1) := by decide +kernel
theorem dL_build_162 : decode cL_build 162 = .ok (.getfield 35, 3) := by decide +kernel
theorem dL_build_165 : decode cL_build 165 = .ok (.iload 5, 2) := by decide +kernel
theorem dL_build_167 : decode cL_build 167 = .ok (.iaload, 1) := by decide +kernel
theorem dL_build_168 : decode cL_build 168 = .ok (.if_icmp .eq 5, 3) := by decide +kernel
theorem dL_build_171 : decode cL_build 171 = .ok (.aconst_null, 1) := by decide +kernel
theorem dL_build_172 : decode cL_build 172 = .ok (.areturn, 1) := by decide +kernel
theorem dL_build_173 : decode cL_build 173 = .ok (.aload_n 2, 1) := by decide +kernel
theorem dL_build_174 : decode cL_build 174 = .ok (.getfield 35, 3) := by decide +kernel
theorem dL_build_177 : decode cL_build 177 = .ok (.iload 5, 2) := by decide +kernel
theorem dL_build_179 : decode cL_build 179 = .ok (.iload 6, 2) := by decide +kernel
theorem dL_build_181 : decode cL_build 181 = .ok (.iastore, 1) := by decide +kernel
theorem dL_build_182 : decode cL_build 182 = .ok (.iinc 4 1, 3) := by decide +kernel
theorem dL_build_185 : decode cL_build 185 = .ok (.goto (-110), 3) := by decide +kernel
theorem dL_build_188 : decode cL_build 188 = .ok (.iconst 1, 1) := by decide +kernel
theorem dL_build_189 : decode cL_build 189 = .ok (.aload_n 1, 1) := by decide +kernel
theorem dL_build_190 : decode cL_build 190 = .ok (.bipush 8, 2) := by decide +kernel
theorem dL_build_192 : decode cL_build 192 = .ok (.invokestatic 12, 3) := by decide +kernel
theorem dL_build_195 : decode cL_build 195 = .ok (.bipush 6, 2) := by decide +kernel
theorem dL_build_197 : decode cL_build 197 = .ok (.invokestatic 18, 3) := by decide +kernel
theorem dL_build_200 : decode cL_build 200 = .ok (.iadd, 1) := by decide +kernel
theorem dL_build_201 : decode cL_build 201 = .ok (.istore 4, 2) := by decide +kernel
theorem dL_build_203 : decode cL_build 203 = .ok (.iconst 0, 1) := by decide +kernel
theorem dL_build_204 : decode cL_build 204 = .ok (.istore 5, 2) := by decide +kernel
theorem dL_build_206 : decode cL_build 206 = .ok (.iload 5, 2) := by decide +kernel
theorem dL_build_208 : decode cL_build 208 = .ok (.iload 4, 2) := by decide +kernel
theorem dL_build_210 : decode cL_build 210 = .ok (.if_icmp .ge 38, 3) := by decide +kernel
theorem dL_build_213 : decode cL_build 213 = .ok (.aload_n 0, 1) := by decide +kernel
theorem dL_build_214 : decode cL_build 214 = .ok (.aload_n 2, 1) := by decide +kernel
theorem dL_build_215 : decode cL_build 215 = .ok (.aload_n 1, 1) := by decide +kernel
theorem dL_build_216 : decode cL_build 216 = .ok (.bipush 9, 2) := by decide +kernel
theorem dL_build_218 : decode cL_build 218 = .ok (.iload 5, 2) := by decide +kernel
theorem dL_build_220 : decode cL_build 220 = .ok (.iconst 3, 1) := by decide +kernel
theorem dL_build_221 : decode cL_build 221 = .ok (.irem, 1) := by decide +kernel
theorem dL_build_222 : decode cL_build 222 = .ok (.iadd, 1) := by decide +kernel
theorem dL_build_223 : decode cL_build 223 = .ok (.invokestatic 12, 3) := by decide +kernel
theorem dL_build_226 : decode cL_build 226 = .ok (.iload 5, 2) := by decide +kernel
theorem dL_build_228 : decode cL_build 228 = .ok (.ishr, 1) := by decide +kernel
theorem dL_build_229 : decode cL_build 229 = .ok (.iconst 5, 1) := by decide +kernel
theorem dL_build_230 : decode cL_build 230 = .ok (.iload 5, 2) := by decide +kernel
theorem dL_build_232 : decode cL_build 232 = .ok (.imul, 1) := by decide +kernel
theorem dL_build_233 : decode cL_build 233 = .ok (.iadd, 1) := by decide +kernel
theorem dL_build_234 : decode cL_build 234 = .ok (.invokestatic 38, 3) := by decide +kernel
theorem dL_build_237 : decode cL_build 237 = .ok (.ifCond .ne 5, 3) := by decide +kernel
theorem dL_build_240 : decode cL_build 240 = .ok (.aconst_null, 1) := by decide +kernel
theorem dL_build_241 : decode cL_build 241 = .ok (.areturn, 1) := by decide +kernel
theorem dL_build_242 : decode cL_build 242 = .ok (.iinc 5 1, 3) := by decide +kernel
theorem dL_build_245 : decode cL_build 245 = .ok (.goto (-39), 3) := by decide +kernel
theorem dL_build_248 : decode cL_build 248 = .ok (.aload_n 2, 1) := by decide +kernel
theorem dL_build_249 : decode cL_build 249 = .ok (.areturn, 1) := by decide +kernel
theorem dL_slip_0 : decode cL_slip 0 = .ok (.iload_n 2, 1) := by decide +kernel
theorem dL_slip_1 : decode cL_slip 1 = .ok (.aload_n 1, 1) := by decide +kernel
theorem dL_slip_2 : decode cL_slip 2 = .ok (.getfield 42, 3) := by decide +kernel
theorem dL_slip_5 : decode cL_slip 5 = .ok (.arraylength, 1) := by decide +kernel
theorem dL_slip_6 : decode cL_slip 6 = .ok (.invokestatic 18, 3) := by decide +kernel
theorem dL_slip_9 : decode cL_slip 9 = .ok (.istore_n 3, 1) := by decide +kernel
theorem dL_slip_10 : decode cL_slip 10 = .ok (.iload_n 2, 1) := by decide +kernel
theorem dL_slip_11 : decode cL_slip 11 = .ok (.iconst 5, 1) := by decide +kernel
theorem dL_slip_12 : decode cL_slip 12 = .ok (.ishr, 1) := by decide +kernel
theorem dL_slip_13 : decode cL_slip 13 = .ok (.iconst 4, 1) := by decide +kernel
theorem dL_slip_14 : decode cL_slip 14 = .ok (.invokestatic 18, 3) := by decide +kernel
theorem dL_slip_17 : decode cL_slip 17 = .ok (.istore 4, 2) := by decide +kernel
theorem dL_slip_19 : decode cL_slip 19 = .ok (.aload_n 1, 1) := by decide +kernel
theorem dL_slip_20 : decode cL_slip 20 = .ok (.iload_n 3, 1) := by decide +kernel
theorem dL_slip_21 : decode cL_slip 21 = .ok (.iload 4, 2) := by decide +kernel
theorem dL_slip_23 : decode cL_slip 23 = .ok (.invokevirtual 45, 3) := by decide +kernel
theorem dL_slip_26 : decode cL_slip 26 = .ok (.ifCond .ne 5, 3) := by decide +kernel
theorem dL_slip_29 : decode cL_slip 29 = .ok (.iconst 1, 1) := by decide +kernel
theorem dL_slip_30 : decode cL_slip 30 = .ok (.ireturn, 1) := by decide +kernel
theorem dL_slip_31 : decode cL_slip 31 = .ok (.aload_n 1, 1) := by decide +kernel
theorem dL_slip_32 : decode cL_slip 32 = .ok (.iload_n 3, 1) := by decide +kernel
theorem dL_slip_33 : decode cL_slip 33 = .ok (.iload 4, 2) := by decide +kernel
theorem dL_slip_35 : decode cL_slip 35 = .ok (.invokevirtual 49, 3) := by decide +kernel
theorem dL_slip_38 : decode cL_slip 38 = .ok (.aload_n 0, 1) := by decide +kernel
theorem dL_slip_39 : decode cL_slip 39 = .ok (.iload_n 3, 1) := by decide +kernel
theorem dL_slip_40 : decode cL_slip 40 = .ok (.iload 4, 2) := by decide +kernel
theorem dL_slip_42 : decode cL_slip 42 = .ok (.invokevirtual 53, 3) := by decide +kernel
theorem dL_slip_45 : decode cL_slip 45 = .ok (.aload_n 1, 1) := by decide +kernel
theorem dL_slip_46 : decode cL_slip 46 = .ok (.getfield 42, 3) := by decide +kernel
theorem dL_slip_49 : decode cL_slip 49 = .ok (.arraylength, 1) := by decide +kernel
theorem dL_slip_50 : decode cL_slip 50 = .ok (.if_icmp .ne 7, 3) := by decide +kernel
theorem dL_slip_53 : decode cL_slip 53 = .ok (.iconst 1, 1) := by decide +kernel
theorem dL_slip_54 : decode cL_slip 54 = .ok (.goto 4, 3) := by decide +kernel
theorem dL_slip_57 : decode cL_slip 57 = .ok (.iconst 0, 1) := by decide +kernel
theorem dL_slip_58 : decode cL_slip 58 = .ok (.ireturn, 1) := by decide +kernel
theorem dL_act_0 : decode cL_act 0 = .ok (.bipush 96, 2) := by decide +kernel
theorem dL_act_2 : decode cL_act 2 = .ok (.iload_n 2, 1) := by decide +kernel
theorem dL_act_3 : decode cL_act 3 = .ok (.iconst 1, 1) := by decide +kernel
theorem dL_act_4 : decode cL_act 4 = .ok (.ishr, 1) := by decide +kernel
theorem dL_act_5 : decode cL_act 5 = .ok (.sipush 192, 3) := by decide +kernel
theorem dL_act_8 : decode cL_act 8 = .ok (.invokestatic 18, 3) := by decide +kernel
theorem dL_act_11 : decode cL_act 11 = .ok (.iadd, 1) := by decide +kernel
theorem dL_act_12 : decode cL_act 12 = .ok (.istore_n 3, 1) := by decide +kernel
theorem dL_act_13 : decode cL_act 13 = .ok (.iload_n 2, 1) := by decide +kernel
theorem dL_act_14 : decode cL_act 14 = .ok (.bipush 8, 2) := by decide +kernel
theorem dL_act_16 : decode cL_act 16 = .ok (.ishr, 1) := by decide +kernel
theorem dL_act_17 : decode cL_act 17 = .ok (.iconst 5, 1) := by decide +kernel
theorem dL_act_18 : decode cL_act 18 = .ok (.invokestatic 18, 3) := by decide +kernel
theorem dL_act_21 : decode cL_act 21 = .ok (.tableswitch 252 0 3 #[31, 38, 138, 191], 31) := by decide +kernel
theorem dL_act_52 : decode cL_act 52 = .ok (.aload_n 0, 1) := by decide +kernel
theorem dL_act_53 : decode cL_act 53 = .ok (.aload_n 1, 1) := by decide +kernel
theorem dL_act_54 : decode cL_act 54 = .ok (.iload_n 2, 1) := by decide +kernel
theorem dL_act_55 : decode cL_act 55 = .ok (.invokestatic 38, 3) := by decide +kernel
theorem dL_act_58 : decode cL_act 58 = .ok (.ireturn, 1) := by decide +kernel
theorem dL_act_59 : decode cL_act 59 = .ok (.aload_n 1, 1) := by decide +kernel
theorem dL_act_60 : decode cL_act 60 = .ok (.getfield 55, 3) := by decide +kernel
theorem dL_act_63 : decode cL_act 63 = .ok (.iload_n 3, 1) := by decide +kernel
theorem dL_act_64 : decode cL_act 64 = .ok (.iload_n 2, 1) := by decide +kernel
theorem dL_act_65 : decode cL_act 65 = .ok (.iconst 4, 1) := by decide +kernel
theorem dL_act_66 : decode cL_act 66 = .ok (.invokestatic 18, 3) := by decide +kernel
theorem dL_act_69 : decode cL_act 69 = .ok (.ifCond .le 7, 3) := by decide +kernel
theorem dL_act_72 : decode cL_act 72 = .ok (.iconst 1, 1) := by decide +kernel
theorem dL_act_73 : decode cL_act 73 = .ok (.goto 4, 3) := by decide +kernel
theorem dL_act_76 : decode cL_act 76 = .ok (.iconst 0, 1) := by decide +kernel
theorem dL_act_77 : decode cL_act 77 = .ok (.bastore, 1) := by decide +kernel
theorem dL_act_78 : decode cL_act 78 = .ok (.iconst 0, 1) := by decide +kernel
theorem dL_act_79 : decode cL_act 79 = .ok (.istore 4, 2) := by decide +kernel
theorem dL_act_81 : decode cL_act 81 = .ok (.aload_n 1, 1) := by decide +kernel
theorem dL_act_82 : decode cL_act 82 = .ok (.getfield 55, 3) := by decide +kernel
theorem dL_act_85 : decode cL_act 85 = .ok (.astore 5, 2) := by decide +kernel
theorem dL_act_87 : decode cL_act 87 = .ok (.aload 5, 2) := by decide +kernel
theorem dL_act_89 : decode cL_act 89 = .ok (.arraylength, 1) := by decide +kernel
theorem dL_act_90 : decode cL_act 90 = .ok (.istore 6, 2) := by decide +kernel
theorem dL_act_92 : decode cL_act 92 = .ok (.iconst 0, 1) := by decide +kernel
theorem dL_act_93 : decode cL_act 93 = .ok (.istore 7, 2) := by decide +kernel
theorem dL_act_95 : decode cL_act 95 = .ok (.iload 7, 2) := by decide +kernel
theorem dL_act_97 : decode cL_act 97 = .ok (.iload 6, 2) := by decide +kernel
theorem dL_act_99 : decode cL_act 99 = .ok (.if_icmp .ge 31, 3) := by decide +kernel
theorem dL_act_102 : decode cL_act 102 = .ok (.aload 5, 2) := by decide +kernel
theorem dL_act_104 : decode cL_act 104 = .ok (.iload 7, 2) := by decide +kernel
theorem dL_act_106 : decode cL_act 106 = .ok (.baload, 1) := by decide +kernel
theorem dL_act_107 : decode cL_act 107 = .ok (.istore 8, 2) := by decide +kernel
theorem dL_act_109 : decode cL_act 109 = .ok (.iload 4, 2) := by decide +kernel
theorem dL_act_111 : decode cL_act 111 = .ok (.iload 8, 2) := by decide +kernel
theorem dL_act_113 : decode cL_act 113 = .ok (.ifCond .eq 7, 3) := by decide +kernel
theorem dL_act_116 : decode cL_act 116 = .ok (.iconst 1, 1) := by decide +kernel
theorem dL_act_117 : decode cL_act 117 = .ok (.goto 4, 3) := by decide +kernel
theorem dL_act_120 : decode cL_act 120 = .ok (.iconst 0, 1) := by decide +kernel
theorem dL_act_121 : decode cL_act 121 = .ok (.iadd, 1) := by decide +kernel
theorem dL_act_122 : decode cL_act 122 = .ok (.istore 4, 2) := by decide +kernel
theorem dL_act_124 : decode cL_act 124 = .ok (.iinc 7 1, 3) := by decide +kernel
theorem dL_act_127 : decode cL_act 127 = .ok (.goto (-32), 3) := by decide +kernel
theorem dL_act_130 : decode cL_act 130 = .ok (.aload_n 0, 1) := by decide +kernel
theorem dL_act_131 : decode cL_act 131 = .ok (.iload_n 3, 1) := by decide +kernel
theorem dL_act_132 : decode cL_act 132 = .ok (.bipush 24, 2) := by decide +kernel
theorem dL_act_134 : decode cL_act 134 = .ok (.irem, 1) := by decide +kernel
theorem dL_act_135 : decode cL_act 135 = .ok (.iload_n 3, 1) := by decide +kernel
theorem dL_act_136 : decode cL_act 136 = .ok (.bipush 24, 2) := by decide +kernel
theorem dL_act_138 : decode cL_act 138 = .ok (.idiv, 1) := by decide +kernel
theorem dL_act_139 : decode cL_act 139 = .ok (.aload_n 1, 1) := by decide +kernel
theorem dL_act_140 : decode cL_act 140 = .ok (.getfield 55, 3) := by decide +kernel
theorem dL_act_143 : decode cL_act 143 = .ok (.iload_n 3, 1) := by decide +kernel
theorem dL_act_144 : decode cL_act 144 = .ok (.baload, 1) := by decide +kernel
theorem dL_act_145 : decode cL_act 145 = .ok (.invokevirtual 59, 3) := by decide +kernel
theorem dL_act_148 : decode cL_act 148 = .ok (.iload 4, 2) := by decide +kernel
theorem dL_act_150 : decode cL_act 150 = .ok (.if_icmp .ne 7, 3) := by decide +kernel
theorem dL_act_153 : decode cL_act 153 = .ok (.iconst 1, 1) := by decide +kernel
theorem dL_act_154 : decode cL_act 154 = .ok (.goto 4, 3) := by decide +kernel
theorem dL_act_157 : decode cL_act 157 = .ok (.iconst 0, 1) := by decide +kernel
theorem dL_act_158 : decode cL_act 158 = .ok (.ireturn, 1) := by decide +kernel
theorem dL_act_159 : decode cL_act 159 = .ok (.aload_n 1, 1) := by decide +kernel
theorem dL_act_160 : decode cL_act 160 = .ok (.getfield 35, 3) := by decide +kernel
theorem dL_act_163 : decode cL_act 163 = .ok (.iload_n 3, 1) := by decide +kernel
theorem dL_act_164 : decode cL_act 164 = .ok (.iaload, 1) := by decide +kernel
theorem dL_act_165 : decode cL_act 165 = .ok (.istore 5, 2) := by decide +kernel
theorem dL_act_167 : decode cL_act 167 = .ok (.aload_n 1, 1) := by decide +kernel
theorem dL_act_168 : decode cL_act 168 = .ok (.getfield 35, 3) := by decide +kernel
theorem dL_act_171 : decode cL_act 171 = .ok (.iload_n 3, 1) := by decide +kernel
theorem dL_act_172 : decode cL_act 172 = .ok (.iconst 1, 1) := by decide +kernel
theorem dL_act_173 : decode cL_act 173 = .ok (.iload_n 2, 1) := by decide +kernel
theorem dL_act_174 : decode cL_act 174 = .ok (.iconst 3, 1) := by decide +kernel
theorem dL_act_175 : decode cL_act 175 = .ok (.ishr, 1) := by decide +kernel
theorem dL_act_176 : decode cL_act 176 = .ok (.bipush 9, 2) := by decide +kernel
theorem dL_act_178 : decode cL_act 178 = .ok (.invokestatic 18, 3) := by decide +kernel
theorem dL_act_181 : decode cL_act 181 = .ok (.iadd, 1) := by decide +kernel
theorem dL_act_182 : decode cL_act 182 = .ok (.iastore, 1) := by decide +kernel
theorem dL_act_183 : decode cL_act 183 = .ok (.aload_n 0, 1) := by decide +kernel
theorem dL_act_184 : decode cL_act 184 = .ok (.iload_n 3, 1) := by decide +kernel
theorem dL_act_185 : decode cL_act 185 = .ok (.bipush 24, 2) := by decide +kernel
theorem dL_act_187 : decode cL_act 187 = .ok (.irem, 1) := by decide +kernel
theorem dL_act_188 : decode cL_act 188 = .ok (.iload_n 3, 1) := by decide +kernel
theorem dL_act_189 : decode cL_act 189 = .ok (.bipush 24, 2) := by decide +kernel
theorem dL_act_191 : decode cL_act 191 = .ok (.idiv, 1) := by decide +kernel
theorem dL_act_192 : decode cL_act 192 = .ok (.aload_n 1, 1) := by decide +kernel
theorem dL_act_193 : decode cL_act 193 = .ok (.getfield 35, 3) := by decide +kernel
theorem dL_act_196 : decode cL_act 196 = .ok (.iload_n 3, 1) := by decide +kernel
theorem dL_act_197 : decode cL_act 197 = .ok (.iaload, 1) := by decide +kernel
theorem dL_act_198 : decode cL_act 198 = .ok (.invokevirtual 31, 3) := by decide +kernel
theorem dL_act_201 : decode cL_act 201 = .ok (.iload 5, 2) := by decide +kernel
theorem dL_act_203 : decode cL_act 203 = .ok (.if_icmp .ne 7, 3) := by decide +kernel
theorem dL_act_206 : decode cL_act 206 = .ok (.iconst 1, 1) := by decide +kernel
theorem dL_act_207 : decode cL_act 207 = .ok (.goto 4, 3) := by decide +kernel
theorem dL_act_210 : decode cL_act 210 = .ok (.iconst 0, 1) := by decide +kernel
theorem dL_act_211 : decode cL_act 211 = .ok (.ireturn, 1) := by decide +kernel
theorem dL_act_212 : decode cL_act 212 = .ok (.aload_n 1, 1) := by decide +kernel
theorem dL_act_213 : decode cL_act 213 = .ok (.invokevirtual 63, 3) := by decide +kernel
theorem dL_act_216 : decode cL_act 216 = .ok (.astore 6, 2) := by decide +kernel
theorem dL_act_218 : decode cL_act 218 = .ok (.aload 6, 2) := by decide +kernel
theorem dL_act_220 : decode cL_act 220 = .ok (.iconst 0, 1) := by decide +kernel
theorem dL_act_221 : decode cL_act 221 = .ok (.iaload, 1) := by decide +kernel
theorem dL_act_222 : decode cL_act 222 = .ok (.ifCond .lt 11, 3) := by decide +kernel
theorem dL_act_225 : decode cL_act 225 = .ok (.iload_n 2, 1) := by decide +kernel
theorem dL_act_226 : decode cL_act 226 = .ok (.iconst 3, 1) := by decide +kernel
theorem dL_act_227 : decode cL_act 227 = .ok (.invokestatic 18, 3) := by decide +kernel
theorem dL_act_230 : decode cL_act 230 = .ok (.ifCond .le 5, 3) := by decide +kernel
theorem dL_act_233 : decode cL_act 233 = .ok (.iconst 1, 1) := by decide +kernel
theorem dL_act_234 : decode cL_act 234 = .ok (.ireturn, 1) := by decide +kernel
theorem dL_act_235 : decode cL_act 235 = .ok (.aload_n 1, 1) := by decide +kernel
theorem dL_act_236 : decode cL_act 236 = .ok (.aload 6, 2) := by decide +kernel
theorem dL_act_238 : decode cL_act 238 = .ok (.iconst 0, 1) := by decide +kernel
theorem dL_act_239 : decode cL_act 239 = .ok (.iaload, 1) := by decide +kernel
theorem dL_act_240 : decode cL_act 240 = .ok (.aload 6, 2) := by decide +kernel
theorem dL_act_242 : decode cL_act 242 = .ok (.iconst 1, 1) := by decide +kernel
theorem dL_act_243 : decode cL_act 243 = .ok (.iaload, 1) := by decide +kernel
theorem dL_act_244 : decode cL_act 244 = .ok (.invokevirtual 67, 3) := by decide +kernel
theorem dL_act_247 : decode cL_act 247 = .ok (.aload_n 0, 1) := by decide +kernel
theorem dL_act_248 : decode cL_act 248 = .ok (.aload 6, 2) := by decide +kernel
theorem dL_act_250 : decode cL_act 250 = .ok (.iconst 0, 1) := by decide +kernel
theorem dL_act_251 : decode cL_act 251 = .ok (.iaload, 1) := by decide +kernel
theorem dL_act_252 : decode cL_act 252 = .ok (.aload 6, 2) := by decide +kernel
theorem dL_act_254 : decode cL_act 254 = .ok (.iconst 1, 1) := by decide +kernel
theorem dL_act_255 : decode cL_act 255 = .ok (.iaload, 1) := by decide +kernel
theorem dL_act_256 : decode cL_act 256 = .ok (.invokevirtual 70, 3) := by decide +kernel
theorem dL_act_259 : decode cL_act 259 = .ok (.aload_n 1, 1) := by decide +kernel
theorem dL_act_260 : decode cL_act 260 = .ok (.getfield 42, 3) := by decide +kernel
theorem dL_act_263 : decode cL_act 263 = .ok (.arraylength, 1) := by decide +kernel
theorem dL_act_264 : decode cL_act 264 = .ok (.if_icmp .ne 7, 3) := by decide +kernel
theorem dL_act_267 : decode cL_act 267 = .ok (.iconst 1, 1) := by decide +kernel
theorem dL_act_268 : decode cL_act 268 = .ok (.goto 4, 3) := by decide +kernel
theorem dL_act_271 : decode cL_act 271 = .ok (.iconst 0, 1) := by decide +kernel
theorem dL_act_272 : decode cL_act 272 = .ok (.ireturn, 1) := by decide +kernel
theorem dL_act_273 : decode cL_act 273 = .ok (.iload_n 2, 1) := by decide +kernel
theorem dL_act_274 : decode cL_act 274 = .ok (.bipush 12, 2) := by decide +kernel
theorem dL_act_276 : decode cL_act 276 = .ok (.invokestatic 18, 3) := by decide +kernel
theorem dL_act_279 : decode cL_act 279 = .ok (.istore 7, 2) := by decide +kernel
theorem dL_act_281 : decode cL_act 281 = .ok (.aload_n 1, 1) := by decide +kernel
theorem dL_act_282 : decode cL_act 282 = .ok (.getfield 27, 3) := by decide +kernel
theorem dL_act_285 : decode cL_act 285 = .ok (.iload 7, 2) := by decide +kernel
theorem dL_act_287 : decode cL_act 287 = .ok (.iaload, 1) := by decide +kernel
theorem dL_act_288 : decode cL_act 288 = .ok (.istore 8, 2) := by decide +kernel
theorem dL_act_290 : decode cL_act 290 = .ok (.aload_n 1, 1) := by decide +kernel
theorem dL_act_291 : decode cL_act 291 = .ok (.getfield 27, 3) := by decide +kernel
theorem dL_act_294 : decode cL_act 294 = .ok (.iload 7, 2) := by decide +kernel
theorem dL_act_296 : decode cL_act 296 = .ok (.iconst 1, 1) := by decide +kernel
theorem dL_act_297 : decode cL_act 297 = .ok (.iload_n 2, 1) := by decide +kernel
theorem dL_act_298 : decode cL_act 298 = .ok (.iconst 4, 1) := by decide +kernel
theorem dL_act_299 : decode cL_act 299 = .ok (.ishr, 1) := by decide +kernel
theorem dL_act_300 : decode cL_act 300 = .ok (.bipush 9, 2) := by decide +kernel
theorem dL_act_302 : decode cL_act 302 = .ok (.invokestatic 18, 3) := by decide +kernel
theorem dL_act_305 : decode cL_act 305 = .ok (.iadd, 1) := by decide +kernel
theorem dL_act_306 : decode cL_act 306 = .ok (.iastore, 1) := by decide +kernel
theorem dL_act_307 : decode cL_act 307 = .ok (.aload_n 0, 1) := by decide +kernel
theorem dL_act_308 : decode cL_act 308 = .ok (.iload 7, 2) := by decide +kernel
theorem dL_act_310 : decode cL_act 310 = .ok (.aload_n 1, 1) := by decide +kernel
theorem dL_act_311 : decode cL_act 311 = .ok (.getfield 27, 3) := by decide +kernel
theorem dL_act_314 : decode cL_act 314 = .ok (.iload 7, 2) := by decide +kernel
theorem dL_act_316 : decode cL_act 316 = .ok (.iaload, 1) := by decide +kernel
theorem dL_act_317 : decode cL_act 317 = .ok (.invokevirtual 22, 3) := by decide +kernel
theorem dL_act_320 : decode cL_act 320 = .ok (.iload 8, 2) := by decide +kernel
theorem dL_act_322 : decode cL_act 322 = .ok (.if_icmp .ne 7, 3) := by decide +kernel
theorem dL_act_325 : decode cL_act 325 = .ok (.iconst 1, 1) := by decide +kernel
theorem dL_act_326 : decode cL_act 326 = .ok (.goto 4, 3) := by decide +kernel
theorem dL_act_329 : decode cL_act 329 = .ok (.iconst 0, 1) := by decide +kernel
theorem dL_act_330 : decode cL_act 330 = .ok (.ireturn, 1) := by decide +kernel
theorem dL_law_0 : decode cL_law 0 = .ok (.new 23, 3) := by decide +kernel
theorem dL_law_3 : decode cL_law 3 = .ok (.dup, 1) := by decide +kernel
theorem dL_law_4 : decode cL_law 4 = .ok (.invokespecial 73, 3) := by decide +kernel
theorem dL_law_7 : decode cL_law 7 = .ok (.astore_n 1, 1) := by decide +kernel
theorem dL_law_8 : decode cL_law 8 = .ok (.aload_n 1, 1) := by decide +kernel
theorem dL_law_9 : decode cL_law 9 = .ok (.aload_n 0, 1) := by decide +kernel
theorem dL_law_10 : decode cL_law 10 = .ok (.invokestatic 74, 3) := by decide +kernel
theorem dL_law_13 : decode cL_law 13 = .ok (.astore_n 2, 1) := by decide +kernel
theorem dL_law_14 : decode cL_law 14 = .ok (.aload_n 2, 1) := by decide +kernel
theorem dL_law_15 : decode cL_law 15 = .ok (.ifnonnull 5, 3) := by decide +kernel
theorem dL_law_18 : decode cL_law 18 = .ok (.iconst 0, 1) := by decide +kernel
theorem dL_law_19 : decode cL_law 19 = .ok (.ireturn, 1) := by decide +kernel
theorem dL_law_20 : decode cL_law 20 = .ok (.iconst 2, 1) := by decide +kernel
theorem dL_law_21 : decode cL_law 21 = .ok (.newarray .int, 2) := by decide +kernel
theorem dL_law_23 : decode cL_law 23 = .ok (.dup, 1) := by decide +kernel
theorem dL_law_24 : decode cL_law 24 = .ok (.iconst 0, 1) := by decide +kernel
theorem dL_law_25 : decode cL_law 25 = .ok (.aload_n 0, 1) := by decide +kernel
theorem dL_law_26 : decode cL_law 26 = .ok (.bipush 13, 2) := by decide +kernel
theorem dL_law_28 : decode cL_law 28 = .ok (.invokestatic 12, 3) := by decide +kernel
theorem dL_law_31 : decode cL_law 31 = .ok (.bipush 24, 2) := by decide +kernel
theorem dL_law_33 : decode cL_law 33 = .ok (.invokestatic 18, 3) := by decide +kernel
theorem dL_law_36 : decode cL_law 36 = .ok (.iastore, 1) := by decide +kernel
theorem dL_law_37 : decode cL_law 37 = .ok (.dup, 1) := by decide +kernel
theorem dL_law_38 : decode cL_law 38 = .ok (.iconst 1, 1) := by decide +kernel
theorem dL_law_39 : decode cL_law 39 = .ok (.aload_n 0, 1) := by decide +kernel
theorem dL_law_40 : decode cL_law 40 = .ok (.bipush 14, 2) := by decide +kernel
theorem dL_law_42 : decode cL_law 42 = .ok (.invokestatic 12, 3) := by decide +kernel
theorem dL_law_45 : decode cL_law 45 = .ok (.bipush 16, 2) := by decide +kernel
theorem dL_law_47 : decode cL_law 47 = .ok (.invokestatic 18, 3) := by decide +kernel
theorem dL_law_50 : decode cL_law 50 = .ok (.iastore, 1) := by decide +kernel
theorem dL_law_51 : decode cL_law 51 = .ok (.astore_n 3, 1) := by decide +kernel
theorem dL_law_52 : decode cL_law 52 = .ok (.aload_n 1, 1) := by decide +kernel
theorem dL_law_53 : decode cL_law 53 = .ok (.aload_n 3, 1) := by decide +kernel
theorem dL_law_54 : decode cL_law 54 = .ok (.iconst 0, 1) := by decide +kernel
theorem dL_law_55 : decode cL_law 55 = .ok (.iaload, 1) := by decide +kernel
theorem dL_law_56 : decode cL_law 56 = .ok (.aload_n 3, 1) := by decide +kernel
theorem dL_law_57 : decode cL_law 57 = .ok (.iconst 1, 1) := by decide +kernel
theorem dL_law_58 : decode cL_law 58 = .ok (.iaload, 1) := by decide +kernel
theorem dL_law_59 : decode cL_law 59 = .ok (.iconst 1, 1) := by decide +kernel
theorem dL_law_60 : decode cL_law 60 = .ok (.aload_n 0, 1) := by decide +kernel
theorem dL_law_61 : decode cL_law 61 = .ok (.bipush 13, 2) := by decide +kernel
theorem dL_law_63 : decode cL_law 63 = .ok (.invokestatic 12, 3) := by decide +kernel
theorem dL_law_66 : decode cL_law 66 = .ok (.iconst 5, 1) := by decide +kernel
theorem dL_law_67 : decode cL_law 67 = .ok (.ishr, 1) := by decide +kernel
theorem dL_law_68 : decode cL_law 68 = .ok (.bipush 24, 2) := by decide +kernel
theorem dL_law_70 : decode cL_law 70 = .ok (.aload_n 3, 1) := by decide +kernel
theorem dL_law_71 : decode cL_law 71 = .ok (.iconst 0, 1) := by decide +kernel
theorem dL_law_72 : decode cL_law 72 = .ok (.iaload, 1) := by decide +kernel
theorem dL_law_73 : decode cL_law 73 = .ok (.isub, 1) := by decide +kernel
theorem dL_law_74 : decode cL_law 74 = .ok (.invokestatic 18, 3) := by decide +kernel
theorem dL_law_77 : decode cL_law 77 = .ok (.iadd, 1) := by decide +kernel
theorem dL_law_78 : decode cL_law 78 = .ok (.iconst 1, 1) := by decide +kernel
theorem dL_law_79 : decode cL_law 79 = .ok (.aload_n 0, 1) := by decide +kernel
theorem dL_law_80 : decode cL_law 80 = .ok (.bipush 14, 2) := by decide +kernel
theorem dL_law_82 : decode cL_law 82 = .ok (.invokestatic 12, 3) := by decide +kernel
theorem dL_law_85 : decode cL_law 85 = .ok (.iconst 4, 1) := by decide +kernel
theorem dL_law_86 : decode cL_law 86 = .ok (.ishr, 1) := by decide +kernel
theorem dL_law_87 : decode cL_law 87 = .ok (.bipush 16, 2) := by decide +kernel
theorem dL_law_89 : decode cL_law 89 = .ok (.aload_n 3, 1) := by decide +kernel
theorem dL_law_90 : decode cL_law 90 = .ok (.iconst 1, 1) := by decide +kernel
theorem dL_law_91 : decode cL_law 91 = .ok (.iaload, 1) := by decide +kernel
theorem dL_law_92 : decode cL_law 92 = .ok (.isub, 1) := by decide +kernel
theorem dL_law_93 : decode cL_law 93 = .ok (.invokestatic 18, 3) := by decide +kernel
theorem dL_law_96 : decode cL_law 96 = .ok (.iadd, 1) := by decide +kernel
theorem dL_law_97 : decode cL_law 97 = .ok (.invokevirtual 78, 3) := by decide +kernel
theorem dL_law_100 : decode cL_law 100 = .ok (.ifCond .eq 5, 3) := by decide +kernel
theorem dL_law_103 : decode cL_law 103 = .ok (.iconst 0, 1) := by decide +kernel
theorem dL_law_104 : decode cL_law 104 = .ok (.ireturn, 1) := by decide +kernel
theorem dL_law_105 : decode cL_law 105 = .ok (.iconst 0, 1) := by decide +kernel
theorem dL_law_106 : decode cL_law 106 = .ok (.istore 4, 2) := by decide +kernel
theorem dL_law_108 : decode cL_law 108 = .ok (.iload 4, 2) := by decide +kernel
theorem dL_law_110 : decode cL_law 110 = .ok (.bipush 24, 2) := by decide +kernel
theorem dL_law_112 : decode cL_law 112 = .ok (.if_icmp .ge 942, 3) := by decide +kernel
theorem dL_law_115 : decode cL_law 115 = .ok (.aload_n 0, 1) := by decide +kernel
theorem dL_law_116 : decode cL_law 116 = .ok (.iload 4, 2) := by decide +kernel
theorem dL_law_118 : decode cL_law 118 = .ok (.bipush 16, 2) := by decide +kernel
theorem dL_law_120 : decode cL_law 120 = .ok (.irem, 1) := by decide +kernel
theorem dL_law_121 : decode cL_law 121 = .ok (.invokestatic 12, 3) := by decide +kernel
theorem dL_law_124 : decode cL_law 124 = .ok (.iload 4, 2) := by decide +kernel
theorem dL_law_126 : decode cL_law 126 = .ok (.bipush 16, 2) := by decide +kernel
theorem dL_law_128 : decode cL_law 128 = .ok (.idiv, 1) := by decide +kernel
theorem dL_law_129 : decode cL_law 129 = .ok (.iconst 3, 1) := by decide +kernel
theorem dL_law_130 : decode cL_law 130 = .ok (.imul, 1) := by decide +kernel
theorem dL_law_131 : decode cL_law 131 = .ok (.ishr, 1) := by decide +kernel
theorem dL_law_132 : decode cL_law 132 = .ok (.bipush 37, 2) := by decide +kernel
theorem dL_law_134 : decode cL_law 134 = .ok (.iload 4, 2) := by decide +kernel
theorem dL_law_136 : decode cL_law 136 = .ok (.imul, 1) := by decide +kernel
theorem dL_law_137 : decode cL_law 137 = .ok (.iadd, 1) := by decide +kernel
theorem dL_law_138 : decode cL_law 138 = .ok (.istore 5, 2) := by decide +kernel
theorem dL_law_140 : decode cL_law 140 = .ok (.aload_n 1, 1) := by decide +kernel
theorem dL_law_141 : decode cL_law 141 = .ok (.aload_n 2, 1) := by decide +kernel
theorem dL_law_142 : decode cL_law 142 = .ok (.iload 5, 2) := by decide +kernel
theorem dL_law_144 : decode cL_law 144 = .ok (.invokestatic 82, 3) := by decide +kernel
theorem dL_law_147 : decode cL_law 147 = .ok (.ifCond .ne 5, 3) := by decide +kernel
theorem dL_law_150 : decode cL_law 150 = .ok (.iconst 0, 1) := by decide +kernel
theorem dL_law_151 : decode cL_law 151 = .ok (.ireturn, 1) := by decide +kernel
theorem dL_law_152 : decode cL_law 152 = .ok (.aload_n 1, 1) := by decide +kernel
theorem dL_law_153 : decode cL_law 153 = .ok (.iconst 1, 1) := by decide +kernel
theorem dL_law_154 : decode cL_law 154 = .ok (.invokevirtual 85, 3) := by decide +kernel
theorem dL_law_157 : decode cL_law 157 = .ok (.istore 6, 2) := by decide +kernel
theorem dL_law_159 : decode cL_law 159 = .ok (.sipush 384, 3) := by decide +kernel
theorem dL_law_162 : decode cL_law 162 = .ok (.newarray .int, 2) := by decide +kernel
theorem dL_law_164 : decode cL_law 164 = .ok (.astore 7, 2) := by decide +kernel
theorem dL_law_166 : decode cL_law 166 = .ok (.sipush 384, 3) := by decide +kernel
theorem dL_law_169 : decode cL_law 169 = .ok (.newarray .int, 2) := by decide +kernel
theorem dL_law_171 : decode cL_law 171 = .ok (.astore 8, 2) := by decide +kernel
theorem dL_law_173 : decode cL_law 173 = .ok (.sipush 384, 3) := by decide +kernel
theorem dL_law_176 : decode cL_law 176 = .ok (.newarray .boolean, 2) := by decide +kernel
theorem dL_law_178 : decode cL_law 178 = .ok (.astore 9, 2) := by decide +kernel
theorem dL_law_180 : decode cL_law 180 = .ok (.iconst 0, 1) := by decide +kernel
theorem dL_law_181 : decode cL_law 181 = .ok (.istore 10, 2) := by decide +kernel
theorem dL_law_183 : decode cL_law 183 = .ok (.iload 10, 2) := by decide +kernel
theorem dL_law_185 : decode cL_law 185 = .ok (.sipush 384, 3) := by decide +kernel
theorem dL_law_188 : decode cL_law 188 = .ok (.if_icmp .ge 57, 3) := by decide +kernel
theorem dL_law_191 : decode cL_law 191 = .ok (.aload 7, 2) := by decide +kernel
theorem dL_law_193 : decode cL_law 193 = .ok (.iload 10, 2) := by decide +kernel
theorem dL_law_195 : decode cL_law 195 = .ok (.aload_n 1, 1) := by decide +kernel
theorem dL_law_196 : decode cL_law 196 = .ok (.iload 10, 2) := by decide +kernel
theorem dL_law_198 : decode cL_law 198 = .ok (.bipush 24, 2) := by decide +kernel
theorem dL_law_200 : decode cL_law 200 = .ok (.irem, 1) := by decide +kernel
theorem dL_law_201 : decode cL_law 201 = .ok (.iload 10, 2) := by decide +kernel
theorem dL_law_203 : decode cL_law 203 = .ok (.bipush 24, 2) := by decide +kernel
theorem dL_law_205 : decode cL_law 205 = .ok (.idiv, 1) := by decide +kernel
theorem dL_law_206 : decode cL_law 206 = .ok (.iconst 1, 1) := by decide +kernel
theorem dL_law_207 : decode cL_law 207 = .ok (.invokevirtual 89, 3) := by decide +kernel
theorem dL_law_210 : decode cL_law 210 = .ok (.iastore, 1) := by decide +kernel
theorem dL_law_211 : decode cL_law 211 = .ok (.aload 9, 2) := by decide +kernel
theorem dL_law_213 : decode cL_law 213 = .ok (.iload 10, 2) := by decide +kernel
theorem dL_law_215 : decode cL_law 215 = .ok (.aload_n 1, 1) := by decide +kernel
theorem dL_law_216 : decode cL_law 216 = .ok (.iload 10, 2) := by decide +kernel
theorem dL_law_218 : decode cL_law 218 = .ok (.bipush 24, 2) := by decide +kernel
theorem dL_law_220 : decode cL_law 220 = .ok (.irem, 1) := by decide +kernel
theorem dL_law_221 : decode cL_law 221 = .ok (.iload 10, 2) := by decide +kernel
theorem dL_law_223 : decode cL_law 223 = .ok (.bipush 24, 2) := by decide +kernel
theorem dL_law_225 : decode cL_law 225 = .ok (.idiv, 1) := by decide +kernel
theorem dL_law_226 : decode cL_law 226 = .ok (.iconst 3, 1) := by decide +kernel
theorem dL_law_227 : decode cL_law 227 = .ok (.invokevirtual 89, 3) := by decide +kernel
theorem dL_law_230 : decode cL_law 230 = .ok (.ifCond .lt 7, 3) := by decide +kernel
theorem dL_law_233 : decode cL_law 233 = .ok (.iconst 1, 1) := by decide +kernel
theorem dL_law_234 : decode cL_law 234 = .ok (.goto 4, 3) := by decide +kernel
theorem dL_law_237 : decode cL_law 237 = .ok (.iconst 0, 1) := by decide +kernel
theorem dL_law_238 : decode cL_law 238 = .ok (.bastore, 1) := by decide +kernel
theorem dL_law_239 : decode cL_law 239 = .ok (.iinc 10 1, 3) := by decide +kernel
theorem dL_law_242 : decode cL_law 242 = .ok (.goto (-59), 3) := by decide +kernel
theorem dL_law_245 : decode cL_law 245 = .ok (.iconst 0, 1) := by decide +kernel
theorem dL_law_246 : decode cL_law 246 = .ok (.istore 10, 2) := by decide +kernel
theorem dL_law_248 : decode cL_law 248 = .ok (.iload 10, 2) := by decide +kernel
theorem dL_law_250 : decode cL_law 250 = .ok (.iload 6, 2) := by decide +kernel
theorem dL_law_252 : decode cL_law 252 = .ok (.if_icmp .ge 74, 3) := by decide +kernel
theorem dL_law_255 : decode cL_law 255 = .ok (.aload_n 1, 1) := by decide +kernel
theorem dL_law_256 : decode cL_law 256 = .ok (.iload 10, 2) := by decide +kernel
theorem dL_law_258 : decode cL_law 258 = .ok (.iconst 4, 1) := by decide +kernel
theorem dL_law_259 : decode cL_law 259 = .ok (.invokevirtual 91, 3) := by decide +kernel
theorem dL_law_262 : decode cL_law 262 = .ok (.istore 11, 2) := by decide +kernel
theorem dL_law_264 : decode cL_law 264 = .ok (.iload 11, 2) := by decide +kernel
theorem dL_law_266 : decode cL_law 266 = .ok (.ifCond .lt 12, 3) := by decide +kernel
theorem dL_law_269 : decode cL_law 269 = .ok (.aload 8, 2) := by decide +kernel
theorem dL_law_271 : decode cL_law 271 = .ok (.iload 11, 2) := by decide +kernel
theorem dL_law_273 : decode cL_law 273 = .ok (.dup2, 1) := by decide +kernel
theorem dL_law_274 : decode cL_law 274 = .ok (.iaload, 1) := by decide +kernel
theorem dL_law_275 : decode cL_law 275 = .ok (.iconst 1, 1) := by decide +kernel
theorem dL_law_276 : decode cL_law 276 = .ok (.iadd, 1) := by decide +kernel
theorem dL_law_277 : decode cL_law 277 = .ok (.iastore, 1) := by decide +kernel
theorem dL_law_278 : decode cL_law 278 = .ok (.aload_n 1, 1) := by decide +kernel
theorem dL_law_279 : decode cL_law 279 = .ok (.iload 10, 2) := by decide +kernel
theorem dL_law_281 : decode cL_law 281 = .ok (.iconst 3, 1) := by decide +kernel
theorem dL_law_282 : decode cL_law 282 = .ok (.invokevirtual 91, 3) := by decide +kernel
theorem dL_law_285 : decode cL_law 285 = .ok (.ifCond .lt 35, 3) := by decide +kernel
theorem dL_law_288 : decode cL_law 288 = .ok (.aload_n 1, 1) := by decide +kernel
theorem dL_law_289 : decode cL_law 289 = .ok (.iload 10, 2) := by decide +kernel
theorem dL_law_291 : decode cL_law 291 = .ok (.iconst 2, 1) := by decide +kernel
theorem dL_law_292 : decode cL_law 292 = .ok (.invokevirtual 91, 3) := by decide +kernel
theorem dL_law_295 : decode cL_law 295 = .ok (.ifCond .eq 23, 3) := by decide +kernel
theorem dL_law_298 : decode cL_law 298 = .ok (.aload_n 1, 1) := by decide +kernel
theorem dL_law_299 : decode cL_law 299 = .ok (.iload 10, 2) := by decide +kernel
theorem dL_law_301 : decode cL_law 301 = .ok (.iconst 3, 1) := by decide +kernel
theorem dL_law_302 : decode cL_law 302 = .ok (.invokevirtual 91, 3) := by decide +kernel
theorem dL_law_305 : decode cL_law 305 = .ok (.aload_n 1, 1) := by decide +kernel
theorem dL_law_306 : decode cL_law 306 = .ok (.iload 10, 2) := by decide +kernel
theorem dL_law_308 : decode cL_law 308 = .ok (.iconst 1, 1) := by decide +kernel
theorem dL_law_309 : decode cL_law 309 = .ok (.invokevirtual 91, 3) := by decide +kernel
theorem dL_law_312 : decode cL_law 312 = .ok (.iadd, 1) := by decide +kernel
theorem dL_law_313 : decode cL_law 313 = .ok (.iconst 2, 1) := by decide +kernel
theorem dL_law_314 : decode cL_law 314 = .ok (.irem, 1) := by decide +kernel
theorem dL_law_315 : decode cL_law 315 = .ok (.ifCond .ne 5, 3) := by decide +kernel
theorem dL_law_318 : decode cL_law 318 = .ok (.iconst 0, 1) := by decide +kernel
theorem dL_law_319 : decode cL_law 319 = .ok (.ireturn, 1) := by decide +kernel
theorem dL_law_320 : decode cL_law 320 = .ok (.iinc 10 1, 3) := by decide +kernel
theorem dL_law_323 : decode cL_law 323 = .ok (.goto (-75), 3) := by decide +kernel
theorem dL_law_326 : decode cL_law 326 = .ok (.aload_n 1, 1) := by decide +kernel
theorem dL_law_327 : decode cL_law 327 = .ok (.iconst 1, 1) := by decide +kernel
theorem dL_law_328 : decode cL_law 328 = .ok (.iconst 0, 1) := by decide +kernel
theorem dL_law_329 : decode cL_law 329 = .ok (.invokevirtual 93, 3) := by decide +kernel
theorem dL_law_332 : decode cL_law 332 = .ok (.istore 10, 2) := by decide +kernel
theorem dL_law_334 : decode cL_law 334 = .ok (.aload_n 1, 1) := by decide +kernel
theorem dL_law_335 : decode cL_law 335 = .ok (.iconst 1, 1) := by decide +kernel
theorem dL_law_336 : decode cL_law 336 = .ok (.iconst 1, 1) := by decide +kernel
theorem dL_law_337 : decode cL_law 337 = .ok (.invokevirtual 93, 3) := by decide +kernel
theorem dL_law_340 : decode cL_law 340 = .ok (.istore 11, 2) := by decide +kernel
theorem dL_law_342 : decode cL_law 342 = .ok (.aload_n 1, 1) := by decide +kernel
theorem dL_law_343 : decode cL_law 343 = .ok (.iconst 1, 1) := by decide +kernel
theorem dL_law_344 : decode cL_law 344 = .ok (.iconst 2, 1) := by decide +kernel
theorem dL_law_345 : decode cL_law 345 = .ok (.invokevirtual 93, 3) := by decide +kernel
theorem dL_law_348 : decode cL_law 348 = .ok (.istore 12, 2) := by decide +kernel
theorem dL_law_350 : decode cL_law 350 = .ok (.aload_n 1, 1) := by decide +kernel
theorem dL_law_351 : decode cL_law 351 = .ok (.iconst 0, 1) := by decide +kernel
theorem dL_law_352 : decode cL_law 352 = .ok (.invokevirtual 96, 3) := by decide +kernel
theorem dL_law_355 : decode cL_law 355 = .ok (.istore 13, 2) := by decide +kernel
theorem dL_law_357 : decode cL_law 357 = .ok (.aload_n 1, 1) := by decide +kernel
theorem dL_law_358 : decode cL_law 358 = .ok (.iconst 0, 1) := by decide +kernel
theorem dL_law_359 : decode cL_law 359 = .ok (.iconst 1, 1) := by decide +kernel
theorem dL_law_360 : decode cL_law 360 = .ok (.invokevirtual 99, 3) := by decide +kernel
theorem dL_law_363 : decode cL_law 363 = .ok (.istore 14, 2) := by decide +kernel
theorem dL_law_365 : decode cL_law 365 = .ok (.aload_n 1, 1) := by decide +kernel
theorem dL_law_366 : decode cL_law 366 = .ok (.iconst 3, 1) := by decide +kernel
theorem dL_law_367 : decode cL_law 367 = .ok (.invokevirtual 85, 3) := by decide +kernel
theorem dL_law_370 : decode cL_law 370 = .ok (.istore 15, 2) := by decide +kernel
theorem dL_law_372 : decode cL_law 372 = .ok (.aload_n 2, 1) := by decide +kernel
theorem dL_law_373 : decode cL_law 373 = .ok (.getfield 27, 3) := by decide +kernel
theorem dL_law_376 : decode cL_law 376 = .ok (.iload 4, 2) := by decide +kernel
theorem dL_law_378 : decode cL_law 378 = .ok (.bipush 12, 2) := by decide +kernel
theorem dL_law_380 : decode cL_law 380 = .ok (.irem, 1) := by decide +kernel
theorem dL_law_381 : decode cL_law 381 = .ok (.iaload, 1) := by decide +kernel
theorem dL_law_382 : decode cL_law 382 = .ok (.istore 16, 2) := by decide +kernel
theorem dL_law_384 : decode cL_law 384 = .ok (.aload_n 1, 1) := by decide +kernel
theorem dL_law_385 : decode cL_law 385 = .ok (.iconst 1, 1) := by decide +kernel
theorem dL_law_386 : decode cL_law 386 = .ok (.invokevirtual 102, 3) := by decide +kernel
theorem dL_law_389 : decode cL_law 389 = .ok (.istore 17, 2) := by decide +kernel
theorem dL_law_391 : decode cL_law 391 = .ok (.aload_n 2, 1) := by decide +kernel
theorem dL_law_392 : decode cL_law 392 = .ok (.invokevirtual 105, 3) := by decide +kernel
theorem dL_law_395 : decode cL_law 395 = .ok (.pop, 1) := by decide +kernel
theorem dL_law_396 : decode cL_law 396 = .ok (.iload 17, 2) := by decide +kernel
theorem dL_law_398 : decode cL_law 398 = .ok (.iload 12, 2) := by decide +kernel
theorem dL_law_400 : decode cL_law 400 = .ok (.if_icmp .ne 56, 3) := by decide +kernel
theorem dL_law_403 : decode cL_law 403 = .ok (.iload 17, 2) := by decide +kernel
theorem dL_law_405 : decode cL_law 405 = .ok (.iconst 1, 1) := by decide +kernel
theorem dL_law_406 : decode cL_law 406 = .ok (.if_icmp .gt 50, 3) := by decide +kernel
theorem dL_law_409 : decode cL_law 409 = .ok (.aload_n 1, 1) := by decide +kernel
theorem dL_law_410 : decode cL_law 410 = .ok (.iconst 1, 1) := by decide +kernel
theorem dL_law_411 : decode cL_law 411 = .ok (.invokevirtual 85, 3) := by decide +kernel
theorem dL_law_414 : decode cL_law 414 = .ok (.iload 10, 2) := by decide +kernel
theorem dL_law_416 : decode cL_law 416 = .ok (.if_icmp .ne 40, 3) := by decide +kernel
theorem dL_law_419 : decode cL_law 419 = .ok (.aload_n 1, 1) := by decide +kernel
theorem dL_law_420 : decode cL_law 420 = .ok (.iconst 3, 1) := by decide +kernel
theorem dL_law_421 : decode cL_law 421 = .ok (.invokevirtual 85, 3) := by decide +kernel
theorem dL_law_424 : decode cL_law 424 = .ok (.iload 15, 2) := by decide +kernel
theorem dL_law_426 : decode cL_law 426 = .ok (.iload 11, 2) := by decide +kernel
theorem dL_law_428 : decode cL_law 428 = .ok (.iadd, 1) := by decide +kernel
theorem dL_law_429 : decode cL_law 429 = .ok (.if_icmp .ne 27, 3) := by decide +kernel
theorem dL_law_432 : decode cL_law 432 = .ok (.aload_n 1, 1) := by decide +kernel
theorem dL_law_433 : decode cL_law 433 = .ok (.iconst 0, 1) := by decide +kernel
theorem dL_law_434 : decode cL_law 434 = .ok (.invokevirtual 85, 3) := by decide +kernel
theorem dL_law_437 : decode cL_law 437 = .ok (.iload 4, 2) := by decide +kernel
theorem dL_law_439 : decode cL_law 439 = .ok (.iconst 1, 1) := by decide +kernel
theorem dL_law_440 : decode cL_law 440 = .ok (.iadd, 1) := by decide +kernel
theorem dL_law_441 : decode cL_law 441 = .ok (.if_icmp .ne 15, 3) := by decide +kernel
theorem dL_law_444 : decode cL_law 444 = .ok (.iload 11, 2) := by decide +kernel
theorem dL_law_446 : decode cL_law 446 = .ok (.ifCond .le 12, 3) := by decide +kernel
theorem dL_law_449 : decode cL_law 449 = .ok (.iload 16, 2) := by decide +kernel
theorem dL_law_451 : decode cL_law 451 = .ok (.bipush 7, 2) := by decide +kernel
theorem dL_law_453 : decode cL_law 453 = .ok (.if_icmp .ge 5, 3) := by decide +kernel
theorem dL_law_456 : decode cL_law 456 = .ok (.iconst 0, 1) := by decide +kernel
theorem dL_law_457 : decode cL_law 457 = .ok (.ireturn, 1) := by decide +kernel
theorem dL_law_458 : decode cL_law 458 = .ok (.iload 13, 2) := by decide +kernel
theorem dL_law_460 : decode cL_law 460 = .ok (.iconst 1, 1) := by decide +kernel
theorem dL_law_461 : decode cL_law 461 = .ok (.if_icmp .ne 7, 3) := by decide +kernel
theorem dL_law_464 : decode cL_law 464 = .ok (.iconst 1, 1) := by decide +kernel
theorem dL_law_465 : decode cL_law 465 = .ok (.goto 4, 3) := by decide +kernel
theorem dL_law_468 : decode cL_law 468 = .ok (.iconst 0, 1) := by decide +kernel
theorem dL_law_469 : decode cL_law 469 = .ok (.aload_n 1, 1) := by decide +kernel
theorem dL_law_470 : decode cL_law 470 = .ok (.iconst 0, 1) := by decide +kernel
theorem dL_law_471 : decode cL_law 471 = .ok (.iconst 1, 1) := by decide +kernel
theorem dL_law_472 : decode cL_law 472 = .ok (.invokevirtual 99, 3) := by decide +kernel
theorem dL_law_475 : decode cL_law 475 = .ok (.iload 14, 2) := by decide +kernel
theorem dL_law_477 : decode cL_law 477 = .ok (.if_icmp .ge 7, 3) := by decide +kernel
theorem dL_law_480 : decode cL_law 480 = .ok (.iconst 1, 1) := by decide +kernel
theorem dL_law_481 : decode cL_law 481 = .ok (.goto 4, 3) := by decide +kernel
theorem dL_law_484 : decode cL_law 484 = .ok (.iconst 0, 1) := by decide +kernel
theorem dL_law_485 : decode cL_law 485 = .ok (.if_icmp .ne 18, 3) := by decide +kernel
theorem dL_law_488 : decode cL_law 488 = .ok (.iload 16, 2) := by decide +kernel
theorem dL_law_490 : decode cL_law 490 = .ok (.bipush 7, 2) := by decide +kernel
theorem dL_law_492 : decode cL_law 492 = .ok (.if_icmp .lt 13, 3) := by decide +kernel
theorem dL_law_495 : decode cL_law 495 = .ok (.aload_n 1, 1) := by decide +kernel
theorem dL_law_496 : decode cL_law 496 = .ok (.iconst 0, 1) := by decide +kernel
theorem dL_law_497 : decode cL_law 497 = .ok (.invokevirtual 108, 3) := by decide +kernel
theorem dL_law_500 : decode cL_law 500 = .ok (.ifCond .eq 5, 3) := by decide +kernel
theorem dL_law_503 : decode cL_law 503 = .ok (.iconst 0, 1) := by decide +kernel
theorem dL_law_504 : decode cL_law 504 = .ok (.ireturn, 1) := by decide +kernel
theorem dL_law_505 : decode cL_law 505 = .ok (.iconst (-1), 1) := by decide +kernel
theorem dL_law_506 : decode cL_law 506 = .ok (.istore 18, 2) := by decide +kernel
theorem dL_law_508 : decode cL_law 508 = .ok (.iconst 0, 1) := by decide +kernel
theorem dL_law_509 : decode cL_law 509 = .ok (.istore 19, 2) := by decide +kernel
theorem dL_law_511 : decode cL_law 511 = .ok (.sipush 384, 3) := by decide +kernel
theorem dL_law_514 : decode cL_law 514 = .ok (.newarray .boolean, 2) := by decide +kernel
theorem dL_law_516 : decode cL_law 516 = .ok (.astore 20, 2) := by decide +kernel
theorem dL_law_518 : decode cL_law 518 = .ok (.iconst 0, 1) := by decide +kernel
theorem dL_law_519 : decode cL_law 519 = .ok (.istore 21, 2) := by decide +kernel
theorem dL_law_521 : decode cL_law 521 = .ok (.iload 21, 2) := by decide +kernel
theorem dL_law_523 : decode cL_law 523 = .ok (.iload 10, 2) := by decide +kernel
theorem dL_law_525 : decode cL_law 525 = .ok (.if_icmp .ge 145, 3) := by decide +kernel
theorem dL_law_528 : decode cL_law 528 = .ok (.aload_n 1, 1) := by decide +kernel
theorem dL_law_529 : decode cL_law 529 = .ok (.iload 21, 2) := by decide +kernel
theorem dL_law_531 : decode cL_law 531 = .ok (.iconst 0, 1) := by decide +kernel
theorem dL_law_532 : decode cL_law 532 = .ok (.invokevirtual 91, 3) := by decide +kernel
theorem dL_law_535 : decode cL_law 535 = .ok (.istore 22, 2) := by decide +kernel
theorem dL_law_537 : decode cL_law 537 = .ok (.iload 22, 2) := by decide +kernel
theorem dL_law_539 : decode cL_law 539 = .ok (.ifCond .lt 77, 3) := by decide +kernel
theorem dL_law_542 : decode cL_law 542 = .ok (.iload 22, 2) := by decide +kernel
theorem dL_law_544 : decode cL_law 544 = .ok (.sipush 383, 3) := by decide +kernel
theorem dL_law_547 : decode cL_law 547 = .ok (.if_icmp .gt 69, 3) := by decide +kernel
theorem dL_law_550 : decode cL_law 550 = .ok (.aload 20, 2) := by decide +kernel
theorem dL_law_552 : decode cL_law 552 = .ok (.iload 22, 2) := by decide +kernel
theorem dL_law_554 : decode cL_law 554 = .ok (.baload, 1) := by decide +kernel
theorem dL_law_555 : decode cL_law 555 = .ok (.ifCond .ne 61, 3) := by decide +kernel
theorem dL_law_558 : decode cL_law 558 = .ok (.iload 21, 2) := by decide +kernel
theorem dL_law_560 : decode cL_law 560 = .ok (.ifCond .le 36, 3) := by decide +kernel
theorem dL_law_563 : decode cL_law 563 = .ok (.iload 22, 2) := by decide +kernel
theorem dL_law_565 : decode cL_law 565 = .ok (.bipush 24, 2) := by decide +kernel
theorem dL_law_567 : decode cL_law 567 = .ok (.irem, 1) := by decide +kernel
theorem dL_law_568 : decode cL_law 568 = .ok (.iload 18, 2) := by decide +kernel
theorem dL_law_570 : decode cL_law 570 = .ok (.bipush 24, 2) := by decide +kernel
theorem dL_law_572 : decode cL_law 572 = .ok (.irem, 1) := by decide +kernel
theorem dL_law_573 : decode cL_law 573 = .ok (.isub, 1) := by decide +kernel
theorem dL_law_574 : decode cL_law 574 = .ok (.invokestatic 110, 3) := by decide +kernel
theorem dL_law_577 : decode cL_law 577 = .ok (.iload 22, 2) := by decide +kernel
theorem dL_law_579 : decode cL_law 579 = .ok (.bipush 24, 2) := by decide +kernel
theorem dL_law_581 : decode cL_law 581 = .ok (.idiv, 1) := by decide +kernel
theorem dL_law_582 : decode cL_law 582 = .ok (.iload 18, 2) := by decide +kernel
theorem dL_law_584 : decode cL_law 584 = .ok (.bipush 24, 2) := by decide +kernel
theorem dL_law_586 : decode cL_law 586 = .ok (.idiv, 1) := by decide +kernel
theorem dL_law_587 : decode cL_law 587 = .ok (.isub, 1) := by decide +kernel
theorem dL_law_588 : decode cL_law 588 = .ok (.invokestatic 110, 3) := by decide +kernel
theorem dL_law_591 : decode cL_law 591 = .ok (.iadd, 1) := by decide +kernel
theorem dL_law_592 : decode cL_law 592 = .ok (.iconst 1, 1) := by decide +kernel
theorem dL_law_593 : decode cL_law 593 = .ok (.if_icmp .ne 23, 3) := by decide +kernel
theorem dL_law_596 : decode cL_law 596 = .ok (.aload_n 1, 1) := by decide +kernel
theorem dL_law_597 : decode cL_law 597 = .ok (.iload 22, 2) := by decide +kernel
theorem dL_law_599 : decode cL_law 599 = .ok (.bipush 24, 2) := by decide +kernel
theorem dL_law_601 : decode cL_law 601 = .ok (.irem, 1) := by decide +kernel
theorem dL_law_602 : decode cL_law 602 = .ok (.iload 22, 2) := by decide +kernel
theorem dL_law_604 : decode cL_law 604 = .ok (.bipush 24, 2) := by decide +kernel
theorem dL_law_606 : decode cL_law 606 = .ok (.idiv, 1) := by decide +kernel
theorem dL_law_607 : decode cL_law 607 = .ok (.iconst 3, 1) := by decide +kernel
theorem dL_law_608 : decode cL_law 608 = .ok (.invokevirtual 89, 3) := by decide +kernel
theorem dL_law_611 : decode cL_law 611 = .ok (.iload 21, 2) := by decide +kernel
theorem dL_law_613 : decode cL_law 613 = .ok (.if_icmp .eq 5, 3) := by decide +kernel
theorem dL_law_616 : decode cL_law 616 = .ok (.iconst 0, 1) := by decide +kernel
theorem dL_law_617 : decode cL_law 617 = .ok (.ireturn, 1) := by decide +kernel
theorem dL_law_618 : decode cL_law 618 = .ok (.aload 20, 2) := by decide +kernel
theorem dL_law_620 : decode cL_law 620 = .ok (.iload 22, 2) := by decide +kernel
theorem dL_law_622 : decode cL_law 622 = .ok (.iconst 1, 1) := by decide +kernel
theorem dL_law_623 : decode cL_law 623 = .ok (.bastore, 1) := by decide +kernel
theorem dL_law_624 : decode cL_law 624 = .ok (.iload 22, 2) := by decide +kernel
theorem dL_law_626 : decode cL_law 626 = .ok (.istore 18, 2) := by decide +kernel
theorem dL_law_628 : decode cL_law 628 = .ok (.iload 21, 2) := by decide +kernel
theorem dL_law_630 : decode cL_law 630 = .ok (.ifCond .le 34, 3) := by decide +kernel
theorem dL_law_633 : decode cL_law 633 = .ok (.iload 21, 2) := by decide +kernel
theorem dL_law_635 : decode cL_law 635 = .ok (.iload 10, 2) := by decide +kernel
theorem dL_law_637 : decode cL_law 637 = .ok (.iconst 1, 1) := by decide +kernel
theorem dL_law_638 : decode cL_law 638 = .ok (.isub, 1) := by decide +kernel
theorem dL_law_639 : decode cL_law 639 = .ok (.if_icmp .ge 25, 3) := by decide +kernel
theorem dL_law_642 : decode cL_law 642 = .ok (.aload_n 1, 1) := by decide +kernel
theorem dL_law_643 : decode cL_law 643 = .ok (.iload 21, 2) := by decide +kernel
theorem dL_law_645 : decode cL_law 645 = .ok (.iconst 1, 1) := by decide +kernel
theorem dL_law_646 : decode cL_law 646 = .ok (.invokevirtual 91, 3) := by decide +kernel
theorem dL_law_649 : decode cL_law 649 = .ok (.aload_n 1, 1) := by decide +kernel
theorem dL_law_650 : decode cL_law 650 = .ok (.iload 21, 2) := by decide +kernel
theorem dL_law_652 : decode cL_law 652 = .ok (.iconst 1, 1) := by decide +kernel
theorem dL_law_653 : decode cL_law 653 = .ok (.isub, 1) := by decide +kernel
theorem dL_law_654 : decode cL_law 654 = .ok (.iconst 1, 1) := by decide +kernel
theorem dL_law_655 : decode cL_law 655 = .ok (.invokevirtual 91, 3) := by decide +kernel
theorem dL_law_658 : decode cL_law 658 = .ok (.if_icmp .eq 6, 3) := by decide +kernel
theorem dL_law_661 : decode cL_law 661 = .ok (.iinc 19 1, 3) := by decide +kernel
theorem dL_law_664 : decode cL_law 664 = .ok (.iinc 21 1, 3) := by decide +kernel
theorem dL_law_667 : decode cL_law 667 = .ok (.goto (-146), 3) := by decide +kernel
theorem dL_law_670 : decode cL_law 670 = .ok (.aload_n 1, 1) := by decide +kernel
theorem dL_law_671 : decode cL_law 671 = .ok (.iconst 0, 1) := by decide +kernel
theorem dL_law_672 : decode cL_law 672 = .ok (.iconst 0, 1) := by decide +kernel
theorem dL_law_673 : decode cL_law 673 = .ok (.invokevirtual 91, 3) := by decide +kernel
theorem dL_law_676 : decode cL_law 676 = .ok (.bipush 24, 2) := by decide +kernel
theorem dL_law_678 : decode cL_law 678 = .ok (.irem, 1) := by decide +kernel
theorem dL_law_679 : decode cL_law 679 = .ok (.ifCond .ne 39, 3) := by decide +kernel
theorem dL_law_682 : decode cL_law 682 = .ok (.iload 18, 2) := by decide +kernel
theorem dL_law_684 : decode cL_law 684 = .ok (.bipush 24, 2) := by decide +kernel
theorem dL_law_686 : decode cL_law 686 = .ok (.irem, 1) := by decide +kernel
theorem dL_law_687 : decode cL_law 687 = .ok (.bipush 23, 2) := by decide +kernel
theorem dL_law_689 : decode cL_law 689 = .ok (.if_icmp .ne 29, 3) := by decide +kernel
theorem dL_law_692 : decode cL_law 692 = .ok (.aload_n 1, 1) := by decide +kernel
theorem dL_law_693 : decode cL_law 693 = .ok (.bipush 6, 2) := by decide +kernel
theorem dL_law_695 : decode cL_law 695 = .ok (.invokevirtual 85, 3) := by decide +kernel
theorem dL_law_698 : decode cL_law 698 = .ok (.iload 19, 2) := by decide +kernel
theorem dL_law_700 : decode cL_law 700 = .ok (.if_icmp .ne 18, 3) := by decide +kernel
theorem dL_law_703 : decode cL_law 703 = .ok (.aload_n 1, 1) := by decide +kernel
theorem dL_law_704 : decode cL_law 704 = .ok (.invokevirtual 115, 3) := by decide +kernel
theorem dL_law_707 : decode cL_law 707 = .ok (.iload 10, 2) := by decide +kernel
theorem dL_law_709 : decode cL_law 709 = .ok (.i2d, 1) := by decide +kernel
theorem dL_law_710 : decode cL_law 710 = .ok (.ldc2_w 119, 3) := by decide +kernel
theorem dL_law_713 : decode cL_law 713 = .ok (.ddiv, 1) := by decide +kernel
theorem dL_law_714 : decode cL_law 714 = .ok (.dcmp .l, 1) := by decide +kernel
theorem dL_law_715 : decode cL_law 715 = .ok (.ifCond .eq 5, 3) := by decide +kernel
theorem dL_law_718 : decode cL_law 718 = .ok (.iconst 0, 1) := by decide +kernel
theorem dL_law_719 : decode cL_law 719 = .ok (.ireturn, 1) := by decide +kernel
theorem dL_law_720 : decode cL_law 720 = .ok (.iconst 0, 1) := by decide +kernel
theorem dL_law_721 : decode cL_law 721 = .ok (.istore 21, 2) := by decide +kernel
theorem dL_law_723 : decode cL_law 723 = .ok (.iconst 0, 1) := by decide +kernel
theorem dL_law_724 : decode cL_law 724 = .ok (.istore 22, 2) := by decide +kernel
theorem dL_law_726 : decode cL_law 726 = .ok (.iconst 0, 1) := by decide +kernel
theorem dL_law_727 : decode cL_law 727 = .ok (.istore 23, 2) := by decide +kernel
theorem dL_law_729 : decode cL_law 729 = .ok (.iload 23, 2) := by decide +kernel
theorem dL_law_731 : decode cL_law 731 = .ok (.sipush 384, 3) := by decide +kernel
theorem dL_law_734 : decode cL_law 734 = .ok (.if_icmp .ge 204, 3) := by decide +kernel
theorem dL_law_737 : decode cL_law 737 = .ok (.aload_n 1, 1) := by decide +kernel
theorem dL_law_738 : decode cL_law 738 = .ok (.iload 23, 2) := by decide +kernel
theorem dL_law_740 : decode cL_law 740 = .ok (.bipush 24, 2) := by decide +kernel
theorem dL_law_742 : decode cL_law 742 = .ok (.irem, 1) := by decide +kernel
theorem dL_law_743 : decode cL_law 743 = .ok (.iload 23, 2) := by decide +kernel
theorem dL_law_745 : decode cL_law 745 = .ok (.bipush 24, 2) := by decide +kernel
theorem dL_law_747 : decode cL_law 747 = .ok (.idiv, 1) := by decide +kernel
theorem dL_law_748 : decode cL_law 748 = .ok (.iconst 1, 1) := by decide +kernel
theorem dL_law_749 : decode cL_law 749 = .ok (.invokevirtual 89, 3) := by decide +kernel
theorem dL_law_752 : decode cL_law 752 = .ok (.istore 24, 2) := by decide +kernel
theorem dL_law_754 : decode cL_law 754 = .ok (.aload 20, 2) := by decide +kernel
theorem dL_law_756 : decode cL_law 756 = .ok (.iload 23, 2) := by decide +kernel
theorem dL_law_758 : decode cL_law 758 = .ok (.baload, 1) := by decide +kernel
theorem dL_law_759 : decode cL_law 759 = .ok (.ifCond .eq 15, 3) := by decide +kernel
theorem dL_law_762 : decode cL_law 762 = .ok (.aload 9, 2) := by decide +kernel
theorem dL_law_764 : decode cL_law 764 = .ok (.iload 23, 2) := by decide +kernel
theorem dL_law_766 : decode cL_law 766 = .ok (.baload, 1) := by decide +kernel
theorem dL_law_767 : decode cL_law 767 = .ok (.ifCond .ne 7, 3) := by decide +kernel
theorem dL_law_770 : decode cL_law 770 = .ok (.iconst 1, 1) := by decide +kernel
theorem dL_law_771 : decode cL_law 771 = .ok (.goto 4, 3) := by decide +kernel
theorem dL_law_774 : decode cL_law 774 = .ok (.iconst 0, 1) := by decide +kernel
theorem dL_law_775 : decode cL_law 775 = .ok (.istore 25, 2) := by decide +kernel
theorem dL_law_777 : decode cL_law 777 = .ok (.iload 22, 2) := by decide +kernel
theorem dL_law_779 : decode cL_law 779 = .ok (.iload 25, 2) := by decide +kernel
theorem dL_law_781 : decode cL_law 781 = .ok (.ifCond .eq 7, 3) := by decide +kernel
theorem dL_law_784 : decode cL_law 784 = .ok (.iconst 1, 1) := by decide +kernel
theorem dL_law_785 : decode cL_law 785 = .ok (.goto 4, 3) := by decide +kernel
theorem dL_law_788 : decode cL_law 788 = .ok (.iconst 0, 1) := by decide +kernel
theorem dL_law_789 : decode cL_law 789 = .ok (.iadd, 1) := by decide +kernel
theorem dL_law_790 : decode cL_law 790 = .ok (.istore 22, 2) := by decide +kernel
theorem dL_law_792 : decode cL_law 792 = .ok (.iload 21, 2) := by decide +kernel
theorem dL_law_794 : decode cL_law 794 = .ok (.aload_n 1, 1) := by decide +kernel
theorem dL_law_795 : decode cL_law 795 = .ok (.iload 23, 2) := by decide +kernel
theorem dL_law_797 : decode cL_law 797 = .ok (.bipush 24, 2) := by decide +kernel
theorem dL_law_799 : decode cL_law 799 = .ok (.irem, 1) := by decide +kernel
theorem dL_law_800 : decode cL_law 800 = .ok (.iload 23, 2) := by decide +kernel
theorem dL_law_802 : decode cL_law 802 = .ok (.bipush 24, 2) := by decide +kernel
theorem dL_law_804 : decode cL_law 804 = .ok (.idiv, 1) := by decide +kernel
theorem dL_law_805 : decode cL_law 805 = .ok (.iconst 4, 1) := by decide +kernel
theorem dL_law_806 : decode cL_law 806 = .ok (.invokevirtual 89, 3) := by decide +kernel
theorem dL_law_809 : decode cL_law 809 = .ok (.ifCond .le 7, 3) := by decide +kernel
theorem dL_law_812 : decode cL_law 812 = .ok (.iconst 1, 1) := by decide +kernel
theorem dL_law_813 : decode cL_law 813 = .ok (.goto 4, 3) := by decide +kernel
theorem dL_law_816 : decode cL_law 816 = .ok (.iconst 0, 1) := by decide +kernel
theorem dL_law_817 : decode cL_law 817 = .ok (.iadd, 1) := by decide +kernel
theorem dL_law_818 : decode cL_law 818 = .ok (.istore 21, 2) := by decide +kernel
theorem dL_law_820 : decode cL_law 820 = .ok (.aload 9, 2) := by decide +kernel
theorem dL_law_822 : decode cL_law 822 = .ok (.iload 23, 2) := by decide +kernel
theorem dL_law_824 : decode cL_law 824 = .ok (.baload, 1) := by decide +kernel
theorem dL_law_825 : decode cL_law 825 = .ok (.ifCond .ne 13, 3) := by decide +kernel
theorem dL_law_828 : decode cL_law 828 = .ok (.aload_n 2, 1) := by decide +kernel
theorem dL_law_829 : decode cL_law 829 = .ok (.getfield 55, 3) := by decide +kernel
theorem dL_law_832 : decode cL_law 832 = .ok (.iload 23, 2) := by decide +kernel
theorem dL_law_834 : decode cL_law 834 = .ok (.baload, 1) := by decide +kernel
theorem dL_law_835 : decode cL_law 835 = .ok (.ifCond .eq 7, 3) := by decide +kernel
theorem dL_law_838 : decode cL_law 838 = .ok (.iconst 0, 1) := by decide +kernel
theorem dL_law_839 : decode cL_law 839 = .ok (.goto 11, 3) := by decide +kernel
theorem dL_law_842 : decode cL_law 842 = .ok (.aload 8, 2) := by decide +kernel
theorem dL_law_844 : decode cL_law 844 = .ok (.iload 23, 2) := by decide +kernel
theorem dL_law_846 : decode cL_law 846 = .ok (.iaload, 1) := by decide +kernel
theorem dL_law_847 : decode cL_law 847 = .ok (.iload 16, 2) := by decide +kernel
theorem dL_law_849 : decode cL_law 849 = .ok (.imul, 1) := by decide +kernel
theorem dL_law_850 : decode cL_law 850 = .ok (.istore 26, 2) := by decide +kernel
theorem dL_law_852 : decode cL_law 852 = .ok (.iload 24, 2) := by decide +kernel
theorem dL_law_854 : decode cL_law 854 = .ok (.aload 7, 2) := by decide +kernel
theorem dL_law_856 : decode cL_law 856 = .ok (.iload 23, 2) := by decide +kernel
theorem dL_law_858 : decode cL_law 858 = .ok (.iaload, 1) := by decide +kernel
theorem dL_law_859 : decode cL_law 859 = .ok (.iload 26, 2) := by decide +kernel
theorem dL_law_861 : decode cL_law 861 = .ok (.iadd, 1) := by decide +kernel
theorem dL_law_862 : decode cL_law 862 = .ok (.if_icmp .eq 8, 3) := by decide +kernel
theorem dL_law_865 : decode cL_law 865 = .ok (.iload 24, 2) := by decide +kernel
theorem dL_law_867 : decode cL_law 867 = .ok (.ifCond .ne 13, 3) := by decide +kernel
theorem dL_law_870 : decode cL_law 870 = .ok (.iload 25, 2) := by decide +kernel
theorem dL_law_872 : decode cL_law 872 = .ok (.ifCond .eq 10, 3) := by decide +kernel
theorem dL_law_875 : decode cL_law 875 = .ok (.iload 24, 2) := by decide +kernel
theorem dL_law_877 : decode cL_law 877 = .ok (.ifCond .eq 5, 3) := by decide +kernel
theorem dL_law_880 : decode cL_law 880 = .ok (.iconst 0, 1) := by decide +kernel
theorem dL_law_881 : decode cL_law 881 = .ok (.ireturn, 1) := by decide +kernel
theorem dL_law_882 : decode cL_law 882 = .ok (.aload 20, 2) := by decide +kernel
theorem dL_law_884 : decode cL_law 884 = .ok (.iload 23, 2) := by decide +kernel
theorem dL_law_886 : decode cL_law 886 = .ok (.baload, 1) := by decide +kernel
theorem dL_law_887 : decode cL_law 887 = .ok (.ifCond .eq 23, 3) := by decide +kernel
theorem dL_law_890 : decode cL_law 890 = .ok (.aload_n 1, 1) := by decide +kernel
theorem dL_law_891 : decode cL_law 891 = .ok (.iload 23, 2) := by decide +kernel
theorem dL_law_893 : decode cL_law 893 = .ok (.bipush 24, 2) := by decide +kernel
theorem dL_law_895 : decode cL_law 895 = .ok (.irem, 1) := by decide +kernel
theorem dL_law_896 : decode cL_law 896 = .ok (.iload 23, 2) := by decide +kernel
theorem dL_law_898 : decode cL_law 898 = .ok (.bipush 24, 2) := by decide +kernel
theorem dL_law_900 : decode cL_law 900 = .ok (.idiv, 1) := by decide +kernel
theorem dL_law_901 : decode cL_law 901 = .ok (.iconst 4, 1) := by decide +kernel
theorem dL_law_902 : decode cL_law 902 = .ok (.invokevirtual 89, 3) := by decide +kernel
theorem dL_law_905 : decode cL_law 905 = .ok (.ifCond .le 5, 3) := by decide +kernel
theorem dL_law_908 : decode cL_law 908 = .ok (.iconst 0, 1) := by decide +kernel
theorem dL_law_909 : decode cL_law 909 = .ok (.ireturn, 1) := by decide +kernel
theorem dL_law_910 : decode cL_law 910 = .ok (.aload_n 1, 1) := by decide +kernel
theorem dL_law_911 : decode cL_law 911 = .ok (.iload 23, 2) := by decide +kernel
theorem dL_law_913 : decode cL_law 913 = .ok (.bipush 24, 2) := by decide +kernel
theorem dL_law_915 : decode cL_law 915 = .ok (.irem, 1) := by decide +kernel
theorem dL_law_916 : decode cL_law 916 = .ok (.iload 23, 2) := by decide +kernel
theorem dL_law_918 : decode cL_law 918 = .ok (.bipush 24, 2) := by decide +kernel
theorem dL_law_920 : decode cL_law 920 = .ok (.idiv, 1) := by decide +kernel
theorem dL_law_921 : decode cL_law 921 = .ok (.iconst 4, 1) := by decide +kernel
theorem dL_law_922 : decode cL_law 922 = .ok (.invokevirtual 89, 3) := by decide +kernel
theorem dL_law_925 : decode cL_law 925 = .ok (.bipush 9, 2) := by decide +kernel
theorem dL_law_927 : decode cL_law 927 = .ok (.if_icmp .le 5, 3) := by decide +kernel
theorem dL_law_930 : decode cL_law 930 = .ok (.iconst 0, 1) := by decide +kernel
theorem dL_law_931 : decode cL_law 931 = .ok (.ireturn, 1) := by decide +kernel
theorem dL_law_932 : decode cL_law 932 = .ok (.iinc 23 1, 3) := by decide +kernel
theorem dL_law_935 : decode cL_law 935 = .ok (.goto (-206), 3) := by decide +kernel
theorem dL_law_938 : decode cL_law 938 = .ok (.iload 22, 2) := by decide +kernel
theorem dL_law_940 : decode cL_law 940 = .ok (.iconst 3, 1) := by decide +kernel
theorem dL_law_941 : decode cL_law 941 = .ok (.iload 17, 2) := by decide +kernel
theorem dL_law_943 : decode cL_law 943 = .ok (.imul, 1) := by decide +kernel
theorem dL_law_944 : decode cL_law 944 = .ok (.if_icmp .gt 56, 3) := by decide +kernel
theorem dL_law_947 : decode cL_law 947 = .ok (.iload 17, 2) := by decide +kernel
theorem dL_law_949 : decode cL_law 949 = .ok (.iconst 1, 1) := by decide +kernel
theorem dL_law_950 : decode cL_law 950 = .ok (.if_icmp .ne 23, 3) := by decide +kernel
theorem dL_law_953 : decode cL_law 953 = .ok (.iload 11, 2) := by decide +kernel
theorem dL_law_955 : decode cL_law 955 = .ok (.ifCond .ne 18, 3) := by decide +kernel
theorem dL_law_958 : decode cL_law 958 = .ok (.iload 22, 2) := by decide +kernel
theorem dL_law_960 : decode cL_law 960 = .ok (.iconst 3, 1) := by decide +kernel
theorem dL_law_961 : decode cL_law 961 = .ok (.if_icmp .ne 39, 3) := by decide +kernel
theorem dL_law_964 : decode cL_law 964 = .ok (.iload 10, 2) := by decide +kernel
theorem dL_law_966 : decode cL_law 966 = .ok (.iload 6, 2) := by decide +kernel
theorem dL_law_968 : decode cL_law 968 = .ok (.iconst 2, 1) := by decide +kernel
theorem dL_law_969 : decode cL_law 969 = .ok (.iadd, 1) := by decide +kernel
theorem dL_law_970 : decode cL_law 970 = .ok (.if_icmp .ne 30, 3) := by decide +kernel
theorem dL_law_973 : decode cL_law 973 = .ok (.iload 17, 2) := by decide +kernel
theorem dL_law_975 : decode cL_law 975 = .ok (.ifCond .ne 15, 3) := by decide +kernel
theorem dL_law_978 : decode cL_law 978 = .ok (.iload 11, 2) := by decide +kernel
theorem dL_law_980 : decode cL_law 980 = .ok (.ifCond .ne 10, 3) := by decide +kernel
theorem dL_law_983 : decode cL_law 983 = .ok (.iload 10, 2) := by decide +kernel
theorem dL_law_985 : decode cL_law 985 = .ok (.iload 6, 2) := by decide +kernel
theorem dL_law_987 : decode cL_law 987 = .ok (.if_icmp .ne 13, 3) := by decide +kernel
theorem dL_law_990 : decode cL_law 990 = .ok (.aload_n 1, 1) := by decide +kernel
theorem dL_law_991 : decode cL_law 991 = .ok (.iconst 2, 1) := by decide +kernel
theorem dL_law_992 : decode cL_law 992 = .ok (.invokevirtual 85, 3) := by decide +kernel
theorem dL_law_995 : decode cL_law 995 = .ok (.iload 21, 2) := by decide +kernel
theorem dL_law_997 : decode cL_law 997 = .ok (.if_icmp .eq 5, 3) := by decide +kernel
theorem dL_law_1000 : decode cL_law 1000 = .ok (.iconst 0, 1) := by decide +kernel
theorem dL_law_1001 : decode cL_law 1001 = .ok (.ireturn, 1) := by decide +kernel
theorem dL_law_1002 : decode cL_law 1002 = .ok (.aload_n 1, 1) := by decide +kernel
theorem dL_law_1003 : decode cL_law 1003 = .ok (.iconst 0, 1) := by decide +kernel
theorem dL_law_1004 : decode cL_law 1004 = .ok (.iconst 0, 1) := by decide +kernel
theorem dL_law_1005 : decode cL_law 1005 = .ok (.invokevirtual 99, 3) := by decide +kernel
theorem dL_law_1008 : decode cL_law 1008 = .ok (.aload_n 1, 1) := by decide +kernel
theorem dL_law_1009 : decode cL_law 1009 = .ok (.iconst 0, 1) := by decide +kernel
theorem dL_law_1010 : decode cL_law 1010 = .ok (.iconst 1, 1) := by decide +kernel
theorem dL_law_1011 : decode cL_law 1011 = .ok (.invokevirtual 99, 3) := by decide +kernel
theorem dL_law_1014 : decode cL_law 1014 = .ok (.aload_n 1, 1) := by decide +kernel
theorem dL_law_1015 : decode cL_law 1015 = .ok (.iconst 0, 1) := by decide +kernel
theorem dL_law_1016 : decode cL_law 1016 = .ok (.iconst 2, 1) := by decide +kernel
theorem dL_law_1017 : decode cL_law 1017 = .ok (.invokevirtual 99, 3) := by decide +kernel
theorem dL_law_1020 : decode cL_law 1020 = .ok (.iadd, 1) := by decide +kernel
theorem dL_law_1021 : decode cL_law 1021 = .ok (.aload_n 1, 1) := by decide +kernel
theorem dL_law_1022 : decode cL_law 1022 = .ok (.iconst 0, 1) := by decide +kernel
theorem dL_law_1023 : decode cL_law 1023 = .ok (.iconst 3, 1) := by decide +kernel
theorem dL_law_1024 : decode cL_law 1024 = .ok (.invokevirtual 99, 3) := by decide +kernel
theorem dL_law_1027 : decode cL_law 1027 = .ok (.iadd, 1) := by decide +kernel
theorem dL_law_1028 : decode cL_law 1028 = .ok (.if_icmp .ne 18, 3) := by decide +kernel
theorem dL_law_1031 : decode cL_law 1031 = .ok (.aload_n 1, 1) := by decide +kernel
theorem dL_law_1032 : decode cL_law 1032 = .ok (.iconst 0, 1) := by decide +kernel
theorem dL_law_1033 : decode cL_law 1033 = .ok (.iconst 4, 1) := by decide +kernel
theorem dL_law_1034 : decode cL_law 1034 = .ok (.invokevirtual 99, 3) := by decide +kernel
theorem dL_law_1037 : decode cL_law 1037 = .ok (.aload_n 1, 1) := by decide +kernel
theorem dL_law_1038 : decode cL_law 1038 = .ok (.iconst 0, 1) := by decide +kernel
theorem dL_law_1039 : decode cL_law 1039 = .ok (.iconst 0, 1) := by decide +kernel
theorem dL_law_1040 : decode cL_law 1040 = .ok (.invokevirtual 99, 3) := by decide +kernel
theorem dL_law_1043 : decode cL_law 1043 = .ok (.if_icmp .le 5, 3) := by decide +kernel
theorem dL_law_1046 : decode cL_law 1046 = .ok (.iconst 0, 1) := by decide +kernel
theorem dL_law_1047 : decode cL_law 1047 = .ok (.ireturn, 1) := by decide +kernel
theorem dL_law_1048 : decode cL_law 1048 = .ok (.iinc 4 1, 3) := by decide +kernel
theorem dL_law_1051 : decode cL_law 1051 = .ok (.goto (-943), 3) := by decide +kernel
theorem dL_law_1054 : decode cL_law 1054 = .ok (.iconst 1, 1) := by decide +kernel
theorem dL_law_1055 : decode cL_law 1055 = .ok (.ireturn, 1) := by decide +kernel
