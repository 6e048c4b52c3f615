theorem dX11_few_74 : decode cX11_few 74 = .ok (.iload 5, 2) := by decide +kernel
theorem dX11_few_76 : decode cX11_few 76 = .ok (.iaload, 1) := by decide +kernel
theorem dX11_few_77 : decode cX11_few 77 = .ok (.bipush 6, 2) := by decide +kernel
theorem dX11_few_79 : decode cX11_few 79 = .ok (.if_icmp .ne 23, 3) := by decide +kernel
theorem dX11_few_82 : decode cX11_few 82 = .ok (.aload_n 0, 1) := by decide +kernel
theorem dX11_few_83 : decode cX11_few 83 = .ok (.getfield 19, 3) := by decide +kernel
theorem dX11_few_86 : decode cX11_few 86 = .ok (.iload 5, 2) := by decide +kernel
theorem dX11_few_88 : decode cX11_few 88 = .ok (.iaload, 1) := by decide +kernel
theorem dX11_few_89 : decode cX11_few 89 = .ok (.aload_n 0, 1) := by decide +kernel
theorem dX11_few_90 : decode cX11_few 90 = .ok (.getfield 19, 3) := by decide +kernel
theorem dX11_few_93 : decode cX11_few 93 = .ok (.iload_n 3, 1) := by decide +kernel
theorem dX11_few_94 : decode cX11_few 94 = .ok (.iaload, 1) := by decide +kernel
theorem dX11_few_95 : decode cX11_few 95 = .ok (.if_icmp .ne 7, 3) := by decide +kernel
theorem dX11_few_98 : decode cX11_few 98 = .ok (.iconst 1, 1) := by decide +kernel
theorem dX11_few_99 : decode cX11_few 99 = .ok (.goto 4, 3) := by decide +kernel
theorem dX11_few_102 : decode cX11_few 102 = .ok (.iconst 0, 1) := by decide +kernel
theorem dX11_few_103 : decode cX11_few 103 = .ok (.istore 6, 2) := by decide +kernel
theorem dX11_few_105 : decode cX11_few 105 = .ok (.iload 6, 2) := by decide +kernel
theorem dX11_few_107 : decode cX11_few 107 = .ok (.ifCond .eq 18, 3) := by decide +kernel
theorem dX11_few_110 : decode cX11_few 110 = .ok (.aload_n 0, 1) := by decide +kernel
theorem dX11_few_111 : decode cX11_few 111 = .ok (.iload 5, 2) := by decide +kernel
theorem dX11_few_113 : decode cX11_few 113 = .ok (.invokevirtual 364, 3) := by decide +kernel
theorem dX11_few_116 : decode cX11_few 116 = .ok (.aload_n 0, 1) := by decide +kernel
theorem dX11_few_117 : decode cX11_few 117 = .ok (.iload_n 3, 1) := by decide +kernel
theorem dX11_few_118 : decode cX11_few 118 = .ok (.invokevirtual 364, 3) := by decide +kernel
theorem dX11_few_121 : decode cX11_few 121 = .ok (.lsub, 1) := by decide +kernel
theorem dX11_few_122 : decode cX11_few 122 = .ok (.goto 6, 3) := by decide +kernel
theorem dX11_few_125 : decode cX11_few 125 = .ok (.ldc2_w 399, 3) := by decide +kernel
theorem dX11_few_128 : decode cX11_few 128 = .ok (.lstore 7, 2) := by decide +kernel
theorem dX11_few_130 : decode cX11_few 130 = .ok (.iload 4, 2) := by decide +kernel
theorem dX11_few_132 : decode cX11_few 132 = .ok (.iload 6, 2) := by decide +kernel
theorem dX11_few_134 : decode cX11_few 134 = .ok (.ifCond .eq 27, 3) := by decide +kernel
theorem dX11_few_137 : decode cX11_few 137 = .ok (.lload 7, 2) := by decide +kernel
theorem dX11_few_139 : decode cX11_few 139 = .ok (.lconst 0, 1) := by decide +kernel
theorem dX11_few_140 : decode cX11_few 140 = .ok (.lcmp, 1) := by decide +kernel
theorem dX11_few_141 : decode cX11_few 141 = .ok (.ifCond .gt 16, 3) := by decide +kernel
theorem dX11_few_144 : decode cX11_few 144 = .ok (.lload 7, 2) := by decide +kernel
theorem dX11_few_146 : decode cX11_few 146 = .ok (.lconst 0, 1) := by decide +kernel
theorem dX11_few_147 : decode cX11_few 147 = .ok (.lcmp, 1) := by decide +kernel
theorem dX11_few_148 : decode cX11_few 148 = .ok (.ifCond .ne 13, 3) := by decide +kernel
theorem dX11_few_151 : decode cX11_few 151 = .ok (.iload 5, 2) := by decide +kernel
theorem dX11_few_153 : decode cX11_few 153 = .ok (.iload_n 3, 1) := by decide +kernel
theorem dX11_few_154 : decode cX11_few 154 = .ok (.if_icmp .ge 7, 3) := by decide +kernel
theorem dX11_few_157 : decode cX11_few 157 = .ok (.iconst 1, 1) := by decide +kernel
theorem dX11_few_158 : decode cX11_few 158 = .ok (.goto 4, 3) := by decide +kernel
theorem dX11_few_161 : decode cX11_few 161 = .ok (.iconst 0, 1) := by decide +kernel
theorem dX11_few_162 : decode cX11_few 162 = .ok (.iadd, 1) := by decide +kernel
theorem dX11_few_163 : decode cX11_few 163 = .ok (.istore 4, 2) := by decide +kernel
theorem dX11_few_165 : decode cX11_few 165 = .ok (.iinc 5 1, 3) := by decide +kernel
theorem dX11_few_168 : decode cX11_few 168 = .ok (.goto (-131), 3) := by decide +kernel
theorem dX11_few_171 : decode cX11_few 171 = .ok (.aload_n 0, 1) := by decide +kernel
theorem dX11_few_172 : decode cX11_few 172 = .ok (.getfield 107, 3) := by decide +kernel
theorem dX11_few_175 : decode cX11_few 175 = .ok (.iload_n 3, 1) := by decide +kernel
theorem dX11_few_176 : decode cX11_few 176 = .ok (.aload_n 0, 1) := by decide +kernel
theorem dX11_few_177 : decode cX11_few 177 = .ok (.iload_n 3, 1) := by decide +kernel
theorem dX11_few_178 : decode cX11_few 178 = .ok (.iload_n 1, 1) := by decide +kernel
theorem dX11_few_179 : decode cX11_few 179 = .ok (.invokevirtual 396, 3) := by decide +kernel
theorem dX11_few_182 : decode cX11_few 182 = .ok (.ifCond .eq 13, 3) := by decide +kernel
theorem dX11_few_185 : decode cX11_few 185 = .ok (.iload 4, 2) := by decide +kernel
theorem dX11_few_187 : decode cX11_few 187 = .ok (.iload_n 2, 1) := by decide +kernel
theorem dX11_few_188 : decode cX11_few 188 = .ok (.if_icmp .lt 7, 3) := by decide +kernel
theorem dX11_few_191 : decode cX11_few 191 = .ok (.iconst 1, 1) := by decide +kernel
theorem dX11_few_192 : decode cX11_few 192 = .ok (.goto 4, 3) := by decide +kernel
theorem dX11_few_195 : decode cX11_few 195 = .ok (.iconst 0, 1) := by decide +kernel
theorem dX11_few_196 : decode cX11_few 196 = .ok (.bastore, 1) := by decide +kernel
theorem dX11_few_197 : decode cX11_few 197 = .ok (.iinc 3 1, 3) := by decide +kernel
theorem dX11_few_200 : decode cX11_few 200 = .ok (.goto (-177), 3) := by decide +kernel
theorem dX11_few_203 : decode cX11_few 203 = .ok (.aload_n 0, 1) := by decide +kernel
theorem dX11_few_204 : decode cX11_few 204 = .ok (.bipush 8, 2) := by decide +kernel
theorem dX11_few_206 : decode cX11_few 206 = .ok (.invokevirtual 401, 3) := by decide +kernel
theorem dX11_few_209 : decode cX11_few 209 = .ok (.ireturn, 1) := by decide +kernel
theorem dX11_placeOf_0 : decode cX11_placeOf 0 = .ok (.iconst 0, 1) := by decide +kernel
theorem dX11_placeOf_1 : decode cX11_placeOf 1 = .ok (.istore_n 3, 1) := by decide +kernel
theorem dX11_placeOf_2 : decode cX11_placeOf 2 = .ok (.iload_n 3, 1) := by decide +kernel
theorem dX11_placeOf_3 : decode cX11_placeOf 3 = .ok (.aload_n 0, 1) := by decide +kernel
theorem dX11_placeOf_4 : decode cX11_placeOf 4 = .ok (.getfield 404, 3) := by decide +kernel
theorem dX11_placeOf_7 : decode cX11_placeOf 7 = .ok (.if_icmp .ge 31, 3) := by decide +kernel
theorem dX11_placeOf_10 : decode cX11_placeOf 10 = .ok (.aload_n 0, 1) := by decide +kernel
theorem dX11_placeOf_11 : decode cX11_placeOf 11 = .ok (.getfield 110, 3) := by decide +kernel
theorem dX11_placeOf_14 : decode cX11_placeOf 14 = .ok (.iload_n 3, 1) := by decide +kernel
theorem dX11_placeOf_15 : decode cX11_placeOf 15 = .ok (.iaload, 1) := by decide +kernel
theorem dX11_placeOf_16 : decode cX11_placeOf 16 = .ok (.iload_n 1, 1) := by decide +kernel
theorem dX11_placeOf_17 : decode cX11_placeOf 17 = .ok (.if_icmp .ne 15, 3) := by decide +kernel
theorem dX11_placeOf_20 : decode cX11_placeOf 20 = .ok (.aload_n 0, 1) := by decide +kernel
theorem dX11_placeOf_21 : decode cX11_placeOf 21 = .ok (.getfield 113, 3) := by decide +kernel
theorem dX11_placeOf_24 : decode cX11_placeOf 24 = .ok (.iload_n 3, 1) := by decide +kernel
theorem dX11_placeOf_25 : decode cX11_placeOf 25 = .ok (.iaload, 1) := by decide +kernel
theorem dX11_placeOf_26 : decode cX11_placeOf 26 = .ok (.iload_n 2, 1) := by decide +kernel
theorem dX11_placeOf_27 : decode cX11_placeOf 27 = .ok (.if_icmp .ne 5, 3) := by decide +kernel
theorem dX11_placeOf_30 : decode cX11_placeOf 30 = .ok (.iload_n 3, 1) := by decide +kernel
theorem dX11_placeOf_31 : decode cX11_placeOf 31 = .ok (.ireturn, 1) := by decide +kernel
theorem dX11_placeOf_32 : decode cX11_placeOf 32 = .ok (.iinc 3 1, 3) := by decide +kernel
theorem dX11_placeOf_35 : decode cX11_placeOf 35 = .ok (.goto (-33), 3) := by decide +kernel
theorem dX11_placeOf_38 : decode cX11_placeOf 38 = .ok (.aload_n 0, 1) := by decide +kernel
theorem dX11_placeOf_39 : decode cX11_placeOf 39 = .ok (.getfield 110, 3) := by decide +kernel
theorem dX11_placeOf_42 : decode cX11_placeOf 42 = .ok (.aload_n 0, 1) := by decide +kernel
theorem dX11_placeOf_43 : decode cX11_placeOf 43 = .ok (.getfield 404, 3) := by decide +kernel
theorem dX11_placeOf_46 : decode cX11_placeOf 46 = .ok (.iload_n 1, 1) := by decide +kernel
theorem dX11_placeOf_47 : decode cX11_placeOf 47 = .ok (.iastore, 1) := by decide +kernel
theorem dX11_placeOf_48 : decode cX11_placeOf 48 = .ok (.aload_n 0, 1) := by decide +kernel
theorem dX11_placeOf_49 : decode cX11_placeOf 49 = .ok (.getfield 113, 3) := by decide +kernel
theorem dX11_placeOf_52 : decode cX11_placeOf 52 = .ok (.aload_n 0, 1) := by decide +kernel
theorem dX11_placeOf_53 : decode cX11_placeOf 53 = .ok (.getfield 404, 3) := by decide +kernel
theorem dX11_placeOf_56 : decode cX11_placeOf 56 = .ok (.iload_n 2, 1) := by decide +kernel
theorem dX11_placeOf_57 : decode cX11_placeOf 57 = .ok (.iastore, 1) := by decide +kernel
theorem dX11_placeOf_58 : decode cX11_placeOf 58 = .ok (.aload_n 0, 1) := by decide +kernel
theorem dX11_placeOf_59 : decode cX11_placeOf 59 = .ok (.getfield 116, 3) := by decide +kernel
theorem dX11_placeOf_62 : decode cX11_placeOf 62 = .ok (.aload_n 0, 1) := by decide +kernel
theorem dX11_placeOf_63 : decode cX11_placeOf 63 = .ok (.getfield 404, 3) := by decide +kernel
theorem dX11_placeOf_66 : decode cX11_placeOf 66 = .ok (.aload_n 0, 1) := by decide +kernel
theorem dX11_placeOf_67 : decode cX11_placeOf 67 = .ok (.getfield 404, 3) := by decide +kernel
theorem dX11_placeOf_70 : decode cX11_placeOf 70 = .ok (.iastore, 1) := by decide +kernel
theorem dX11_placeOf_71 : decode cX11_placeOf 71 = .ok (.aload_n 0, 1) := by decide +kernel
theorem dX11_placeOf_72 : decode cX11_placeOf 72 = .ok (.dup, 1) := by decide +kernel
theorem dX11_placeOf_73 : decode cX11_placeOf 73 = .ok (.getfield 404, 3) := by decide +kernel
theorem dX11_placeOf_76 : decode cX11_placeOf 76 = .ok (.iconst 1, 1) := by decide +kernel
theorem dX11_placeOf_77 : decode cX11_placeOf 77 = .ok (.iadd, 1) := by decide +kernel
theorem dX11_placeOf_78 : decode cX11_placeOf 78 = .ok (.putfield 404, 3) := by decide +kernel
theorem dX11_placeOf_81 : decode cX11_placeOf 81 = .ok (.aload_n 0, 1) := by decide +kernel
theorem dX11_placeOf_82 : decode cX11_placeOf 82 = .ok (.getfield 404, 3) := by decide +kernel
theorem dX11_placeOf_85 : decode cX11_placeOf 85 = .ok (.iconst 1, 1) := by decide +kernel
theorem dX11_placeOf_86 : decode cX11_placeOf 86 = .ok (.isub, 1) := by decide +kernel
theorem dX11_placeOf_87 : decode cX11_placeOf 87 = .ok (.ireturn, 1) := by decide +kernel
theorem dX11_isRoad_0 : decode cX11_isRoad 0 = .ok (.aload_n 0, 1) := by decide +kernel
theorem dX11_isRoad_1 : decode cX11_isRoad 1 = .ok (.iload_n 1, 1) := by decide +kernel
theorem dX11_isRoad_2 : decode cX11_isRoad 2 = .ok (.invokevirtual 197, 3) := by decide +kernel
theorem dX11_isRoad_5 : decode cX11_isRoad 5 = .ok (.ifCond .eq 17, 3) := by decide +kernel
theorem dX11_isRoad_8 : decode cX11_isRoad 8 = .ok (.aload_n 0, 1) := by decide +kernel
theorem dX11_isRoad_9 : decode cX11_isRoad 9 = .ok (.getfield 7, 3) := by decide +kernel
theorem dX11_isRoad_12 : decode cX11_isRoad 12 = .ok (.iload_n 1, 1) := by decide +kernel
theorem dX11_isRoad_13 : decode cX11_isRoad 13 = .ok (.iaload, 1) := by decide +kernel
theorem dX11_isRoad_14 : decode cX11_isRoad 14 = .ok (.iconst 3, 1) := by decide +kernel
theorem dX11_isRoad_15 : decode cX11_isRoad 15 = .ok (.if_icmp .ne 7, 3) := by decide +kernel
theorem dX11_isRoad_18 : decode cX11_isRoad 18 = .ok (.iconst 1, 1) := by decide +kernel
theorem dX11_isRoad_19 : decode cX11_isRoad 19 = .ok (.goto 4, 3) := by decide +kernel
theorem dX11_isRoad_22 : decode cX11_isRoad 22 = .ok (.iconst 0, 1) := by decide +kernel
theorem dX11_isRoad_23 : decode cX11_isRoad 23 = .ok (.ireturn, 1) := by decide +kernel
theorem dX11_weight_0 : decode cX11_weight 0 = .ok (.aload_n 0, 1) := by decide +kernel
theorem dX11_weight_1 : decode cX11_weight 1 = .ok (.getfield 13, 3) := by decide +kernel
theorem dX11_weight_4 : decode cX11_weight 4 = .ok (.iload_n 1, 1) := by decide +kernel
theorem dX11_weight_5 : decode cX11_weight 5 = .ok (.iaload, 1) := by decide +kernel
theorem dX11_weight_6 : decode cX11_weight 6 = .ok (.iconst 1, 1) := by decide +kernel
theorem dX11_weight_7 : decode cX11_weight 7 = .ok (.iadd, 1) := by decide +kernel
theorem dX11_weight_8 : decode cX11_weight 8 = .ok (.i2l, 1) := by decide +kernel
theorem dX11_weight_9 : decode cX11_weight 9 = .ok (.aload_n 0, 1) := by decide +kernel
theorem dX11_weight_10 : decode cX11_weight 10 = .ok (.iload_n 1, 1) := by decide +kernel
theorem dX11_weight_11 : decode cX11_weight 11 = .ok (.invokevirtual 407, 3) := by decide +kernel
theorem dX11_weight_14 : decode cX11_weight 14 = .ok (.lmul, 1) := by decide +kernel
theorem dX11_weight_15 : decode cX11_weight 15 = .ok (.lreturn, 1) := by decide +kernel
theorem dX11_choose_0 : decode cX11_choose 0 = .ok (.aload_n 0, 1) := by decide +kernel
theorem dX11_choose_1 : decode cX11_choose 1 = .ok (.iconst 0, 1) := by decide +kernel
theorem dX11_choose_2 : decode cX11_choose 2 = .ok (.putfield 404, 3) := by decide +kernel
theorem dX11_choose_5 : decode cX11_choose 5 = .ok (.iconst 0, 1) := by decide +kernel
theorem dX11_choose_6 : decode cX11_choose 6 = .ok (.istore_n 1, 1) := by decide +kernel
theorem dX11_choose_7 : decode cX11_choose 7 = .ok (.iload_n 1, 1) := by decide +kernel
theorem dX11_choose_8 : decode cX11_choose 8 = .ok (.aload_n 0, 1) := by decide +kernel
theorem dX11_choose_9 : decode cX11_choose 9 = .ok (.getfield 130, 3) := by decide +kernel
theorem dX11_choose_12 : decode cX11_choose 12 = .ok (.if_icmp .ge 35, 3) := by decide +kernel
theorem dX11_choose_15 : decode cX11_choose 15 = .ok (.aload_n 0, 1) := by decide +kernel
theorem dX11_choose_16 : decode cX11_choose 16 = .ok (.getfield 107, 3) := by decide +kernel
theorem dX11_choose_19 : decode cX11_choose 19 = .ok (.iload_n 1, 1) := by decide +kernel
theorem dX11_choose_20 : decode cX11_choose 20 = .ok (.iconst 0, 1) := by decide +kernel
theorem dX11_choose_21 : decode cX11_choose 21 = .ok (.bastore, 1) := by decide +kernel
theorem dX11_choose_22 : decode cX11_choose 22 = .ok (.aload_n 0, 1) := by decide +kernel
theorem dX11_choose_23 : decode cX11_choose 23 = .ok (.getfield 92, 3) := by decide +kernel
theorem dX11_choose_26 : decode cX11_choose 26 = .ok (.iload_n 1, 1) := by decide +kernel
theorem dX11_choose_27 : decode cX11_choose 27 = .ok (.aload_n 0, 1) := by decide +kernel
theorem dX11_choose_28 : decode cX11_choose 28 = .ok (.iload_n 1, 1) := by decide +kernel
theorem dX11_choose_29 : decode cX11_choose 29 = .ok (.invokevirtual 410, 3) := by decide +kernel
theorem dX11_choose_32 : decode cX11_choose 32 = .ok (.ifCond .ne 7, 3) := by decide +kernel
theorem dX11_choose_35 : decode cX11_choose 35 = .ok (.iconst 1, 1) := by decide +kernel
theorem dX11_choose_36 : decode cX11_choose 36 = .ok (.goto 4, 3) := by decide +kernel
theorem dX11_choose_39 : decode cX11_choose 39 = .ok (.iconst 0, 1) := by decide +kernel
theorem dX11_choose_40 : decode cX11_choose 40 = .ok (.bastore, 1) := by decide +kernel
theorem dX11_choose_41 : decode cX11_choose 41 = .ok (.iinc 1 1, 3) := by decide +kernel
theorem dX11_choose_44 : decode cX11_choose 44 = .ok (.goto (-37), 3) := by decide +kernel
theorem dX11_choose_47 : decode cX11_choose 47 = .ok (.iconst 0, 1) := by decide +kernel
theorem dX11_choose_48 : decode cX11_choose 48 = .ok (.istore_n 1, 1) := by decide +kernel
theorem dX11_choose_49 : decode cX11_choose 49 = .ok (.iload_n 1, 1) := by decide +kernel
theorem dX11_choose_50 : decode cX11_choose 50 = .ok (.aload_n 0, 1) := by decide +kernel
theorem dX11_choose_51 : decode cX11_choose 51 = .ok (.getfield 130, 3) := by decide +kernel
theorem dX11_choose_54 : decode cX11_choose 54 = .ok (.if_icmp .ge 205, 3) := by decide +kernel
theorem dX11_choose_57 : decode cX11_choose 57 = .ok (.iconst (-1), 1) := by decide +kernel
theorem dX11_choose_58 : decode cX11_choose 58 = .ok (.istore_n 2, 1) := by decide +kernel
theorem dX11_choose_59 : decode cX11_choose 59 = .ok (.iconst 0, 1) := by decide +kernel
theorem dX11_choose_60 : decode cX11_choose 60 = .ok (.istore_n 3, 1) := by decide +kernel
theorem dX11_choose_61 : decode cX11_choose 61 = .ok (.iload_n 3, 1) := by decide +kernel
theorem dX11_choose_62 : decode cX11_choose 62 = .ok (.aload_n 0, 1) := by decide +kernel
theorem dX11_choose_63 : decode cX11_choose 63 = .ok (.getfield 130, 3) := by decide +kernel
theorem dX11_choose_66 : decode cX11_choose 66 = .ok (.if_icmp .ge 39, 3) := by decide +kernel
theorem dX11_choose_69 : decode cX11_choose 69 = .ok (.aload_n 0, 1) := by decide +kernel
theorem dX11_choose_70 : decode cX11_choose 70 = .ok (.getfield 92, 3) := by decide +kernel
theorem dX11_choose_73 : decode cX11_choose 73 = .ok (.iload_n 3, 1) := by decide +kernel
theorem dX11_choose_74 : decode cX11_choose 74 = .ok (.baload, 1) := by decide +kernel
theorem dX11_choose_75 : decode cX11_choose 75 = .ok (.ifCond .ne 24, 3) := by decide +kernel
theorem dX11_choose_78 : decode cX11_choose 78 = .ok (.iload_n 2, 1) := by decide +kernel
theorem dX11_choose_79 : decode cX11_choose 79 = .ok (.iconst (-1), 1) := by decide +kernel
theorem dX11_choose_80 : decode cX11_choose 80 = .ok (.if_icmp .eq 17, 3) := by decide +kernel
theorem dX11_choose_83 : decode cX11_choose 83 = .ok (.aload_n 0, 1) := by decide +kernel
theorem dX11_choose_84 : decode cX11_choose 84 = .ok (.iload_n 3, 1) := by decide +kernel
theorem dX11_choose_85 : decode cX11_choose 85 = .ok (.invokevirtual 413, 3) := by decide +kernel
theorem dX11_choose_88 : decode cX11_choose 88 = .ok (.aload_n 0, 1) := by decide +kernel
theorem dX11_choose_89 : decode cX11_choose 89 = .ok (.iload_n 2, 1) := by decide +kernel
theorem dX11_choose_90 : decode cX11_choose 90 = .ok (.invokevirtual 413, 3) := by decide +kernel
theorem dX11_choose_93 : decode cX11_choose 93 = .ok (.lcmp, 1) := by decide +kernel
theorem dX11_choose_94 : decode cX11_choose 94 = .ok (.ifCond .ge 5, 3) := by decide +kernel
theorem dX11_choose_97 : decode cX11_choose 97 = .ok (.iload_n 3, 1) := by decide +kernel
theorem dX11_choose_98 : decode cX11_choose 98 = .ok (.istore_n 2, 1) := by decide +kernel
theorem dX11_choose_99 : decode cX11_choose 99 = .ok (.iinc 3 1, 3) := by decide +kernel
theorem dX11_choose_102 : decode cX11_choose 102 = .ok (.goto (-41), 3) := by decide +kernel
theorem dX11_choose_105 : decode cX11_choose 105 = .ok (.iload_n 2, 1) := by decide +kernel
theorem dX11_choose_106 : decode cX11_choose 106 = .ok (.iconst (-1), 1) := by decide +kernel
theorem dX11_choose_107 : decode cX11_choose 107 = .ok (.if_icmp .ne 6, 3) := by decide +kernel
theorem dX11_choose_110 : decode cX11_choose 110 = .ok (.goto 149, 3) := by decide +kernel
theorem dX11_choose_113 : decode cX11_choose 113 = .ok (.aload_n 0, 1) := by decide +kernel
theorem dX11_choose_114 : decode cX11_choose 114 = .ok (.getfield 92, 3) := by decide +kernel
theorem dX11_choose_117 : decode cX11_choose 117 = .ok (.iload_n 2, 1) := by decide +kernel
theorem dX11_choose_118 : decode cX11_choose 118 = .ok (.iconst 1, 1) := by decide +kernel
theorem dX11_choose_119 : decode cX11_choose 119 = .ok (.bastore, 1) := by decide +kernel
theorem dX11_choose_120 : decode cX11_choose 120 = .ok (.aload_n 0, 1) := by decide +kernel
theorem dX11_choose_121 : decode cX11_choose 121 = .ok (.getfield 116, 3) := by decide +kernel
theorem dX11_choose_124 : decode cX11_choose 124 = .ok (.aload_n 0, 1) := by decide +kernel
theorem dX11_choose_125 : decode cX11_choose 125 = .ok (.aload_n 0, 1) := by decide +kernel
theorem dX11_choose_126 : decode cX11_choose 126 = .ok (.getfield 44, 3) := by decide +kernel
theorem dX11_choose_129 : decode cX11_choose 129 = .ok (.bipush 40, 2) := by decide +kernel
theorem dX11_choose_131 : decode cX11_choose 131 = .ok (.iload_n 2, 1) := by decide +kernel
theorem dX11_choose_132 : decode cX11_choose 132 = .ok (.imul, 1) := by decide +kernel
theorem dX11_choose_133 : decode cX11_choose 133 = .ok (.iaload, 1) := by decide +kernel
theorem dX11_choose_134 : decode cX11_choose 134 = .ok (.aload_n 0, 1) := by decide +kernel
theorem dX11_choose_135 : decode cX11_choose 135 = .ok (.getfield 47, 3) := by decide +kernel
theorem dX11_choose_138 : decode cX11_choose 138 = .ok (.bipush 40, 2) := by decide +kernel
theorem dX11_choose_140 : decode cX11_choose 140 = .ok (.iload_n 2, 1) := by decide +kernel
theorem dX11_choose_141 : decode cX11_choose 141 = .ok (.imul, 1) := by decide +kernel
theorem dX11_choose_142 : decode cX11_choose 142 = .ok (.iaload, 1) := by decide +kernel
theorem dX11_choose_143 : decode cX11_choose 143 = .ok (.invokevirtual 416, 3) := by decide +kernel
theorem dX11_choose_146 : decode cX11_choose 146 = .ok (.iaload, 1) := by decide +kernel
theorem dX11_choose_147 : decode cX11_choose 147 = .ok (.istore_n 3, 1) := by decide +kernel
theorem dX11_choose_148 : decode cX11_choose 148 = .ok (.bipush 40, 2) := by decide +kernel
theorem dX11_choose_150 : decode cX11_choose 150 = .ok (.iload_n 2, 1) := by decide +kernel
theorem dX11_choose_151 : decode cX11_choose 151 = .ok (.imul, 1) := by decide +kernel
theorem dX11_choose_152 : decode cX11_choose 152 = .ok (.aload_n 0, 1) := by decide +kernel
theorem dX11_choose_153 : decode cX11_choose 153 = .ok (.getfield 41, 3) := by decide +kernel
theorem dX11_choose_156 : decode cX11_choose 156 = .ok (.iload_n 2, 1) := by decide +kernel
theorem dX11_choose_157 : decode cX11_choose 157 = .ok (.iaload, 1) := by decide +kernel
theorem dX11_choose_158 : decode cX11_choose 158 = .ok (.iadd, 1) := by decide +kernel
theorem dX11_choose_159 : decode cX11_choose 159 = .ok (.iconst 1, 1) := by decide +kernel
theorem dX11_choose_160 : decode cX11_choose 160 = .ok (.isub, 1) := by decide +kernel
theorem dX11_choose_161 : decode cX11_choose 161 = .ok (.istore 4, 2) := by decide +kernel
theorem dX11_choose_163 : decode cX11_choose 163 = .ok (.aload_n 0, 1) := by decide +kernel
theorem dX11_choose_164 : decode cX11_choose 164 = .ok (.getfield 116, 3) := by decide +kernel
theorem dX11_choose_167 : decode cX11_choose 167 = .ok (.aload_n 0, 1) := by decide +kernel
theorem dX11_choose_168 : decode cX11_choose 168 = .ok (.aload_n 0, 1) := by decide +kernel
theorem dX11_choose_169 : decode cX11_choose 169 = .ok (.getfield 44, 3) := by decide +kernel
theorem dX11_choose_172 : decode cX11_choose 172 = .ok (.iload 4, 2) := by decide +kernel
theorem dX11_choose_174 : decode cX11_choose 174 = .ok (.iaload, 1) := by decide +kernel
theorem dX11_choose_175 : decode cX11_choose 175 = .ok (.aload_n 0, 1) := by decide +kernel
theorem dX11_choose_176 : decode cX11_choose 176 = .ok (.getfield 47, 3) := by decide +kernel
theorem dX11_choose_179 : decode cX11_choose 179 = .ok (.iload 4, 2) := by decide +kernel
theorem dX11_choose_181 : decode cX11_choose 181 = .ok (.iaload, 1) := by decide +kernel
theorem dX11_choose_182 : decode cX11_choose 182 = .ok (.invokevirtual 416, 3) := by decide +kernel
theorem dX11_choose_185 : decode cX11_choose 185 = .ok (.iaload, 1) := by decide +kernel
theorem dX11_choose_186 : decode cX11_choose 186 = .ok (.istore 5, 2) := by decide +kernel
theorem dX11_choose_188 : decode cX11_choose 188 = .ok (.aload_n 0, 1) := by decide +kernel
theorem dX11_choose_189 : decode cX11_choose 189 = .ok (.getfield 107, 3) := by decide +kernel
theorem dX11_choose_192 : decode cX11_choose 192 = .ok (.iload_n 2, 1) := by decide +kernel
theorem dX11_choose_193 : decode cX11_choose 193 = .ok (.iload_n 3, 1) := by decide +kernel
theorem dX11_choose_194 : decode cX11_choose 194 = .ok (.iload 5, 2) := by decide +kernel
theorem dX11_choose_196 : decode cX11_choose 196 = .ok (.if_icmp .ne 7, 3) := by decide +kernel
theorem dX11_choose_199 : decode cX11_choose 199 = .ok (.iconst 1, 1) := by decide +kernel
theorem dX11_choose_200 : decode cX11_choose 200 = .ok (.goto 4, 3) := by decide +kernel
theorem dX11_choose_203 : decode cX11_choose 203 = .ok (.iconst 0, 1) := by decide +kernel
theorem dX11_choose_204 : decode cX11_choose 204 = .ok (.bastore, 1) := by decide +kernel
theorem dX11_choose_205 : decode cX11_choose 205 = .ok (.iconst 0, 1) := by decide +kernel
theorem dX11_choose_206 : decode cX11_choose 206 = .ok (.istore 6, 2) := by decide +kernel
theorem dX11_choose_208 : decode cX11_choose 208 = .ok (.iload 6, 2) := by decide +kernel
theorem dX11_choose_210 : decode cX11_choose 210 = .ok (.aload_n 0, 1) := by decide +kernel
theorem dX11_choose_211 : decode cX11_choose 211 = .ok (.getfield 404, 3) := by decide +kernel
theorem dX11_choose_214 : decode cX11_choose 214 = .ok (.if_icmp .ge 39, 3) := by decide +kernel
theorem dX11_choose_217 : decode cX11_choose 217 = .ok (.aload_n 0, 1) := by decide +kernel
theorem dX11_choose_218 : decode cX11_choose 218 = .ok (.getfield 116, 3) := by decide +kernel
theorem dX11_choose_221 : decode cX11_choose 221 = .ok (.iload 6, 2) := by decide +kernel
theorem dX11_choose_223 : decode cX11_choose 223 = .ok (.aload_n 0, 1) := by decide +kernel
theorem dX11_choose_224 : decode cX11_choose 224 = .ok (.getfield 116, 3) := by decide +kernel
theorem dX11_choose_227 : decode cX11_choose 227 = .ok (.iload 6, 2) := by decide +kernel
theorem dX11_choose_229 : decode cX11_choose 229 = .ok (.iaload, 1) := by decide +kernel
theorem dX11_choose_230 : decode cX11_choose 230 = .ok (.iload 5, 2) := by decide +kernel
theorem dX11_choose_232 : decode cX11_choose 232 = .ok (.if_icmp .ne 7, 3) := by decide +kernel
theorem dX11_choose_235 : decode cX11_choose 235 = .ok (.iload_n 3, 1) := by decide +kernel
theorem dX11_choose_236 : decode cX11_choose 236 = .ok (.goto 10, 3) := by decide +kernel
theorem dX11_choose_239 : decode cX11_choose 239 = .ok (.aload_n 0, 1) := by decide +kernel
theorem dX11_choose_240 : decode cX11_choose 240 = .ok (.getfield 116, 3) := by decide +kernel
theorem dX11_choose_243 : decode cX11_choose 243 = .ok (.iload 6, 2) := by decide +kernel
theorem dX11_choose_245 : decode cX11_choose 245 = .ok (.iaload, 1) := by decide +kernel
theorem dX11_choose_246 : decode cX11_choose 246 = .ok (.iastore, 1) := by decide +kernel
theorem dX11_choose_247 : decode cX11_choose 247 = .ok (.iinc 6 1, 3) := by decide +kernel
theorem dX11_choose_250 : decode cX11_choose 250 = .ok (.goto (-42), 3) := by decide +kernel
theorem dX11_choose_253 : decode cX11_choose 253 = .ok (.iinc 1 1, 3) := by decide +kernel
theorem dX11_choose_256 : decode cX11_choose 256 = .ok (.goto (-207), 3) := by decide +kernel
theorem dX11_choose_259 : decode cX11_choose 259 = .ok (.aload_n 0, 1) := by decide +kernel
theorem dX11_choose_260 : decode cX11_choose 260 = .ok (.bipush 9, 2) := by decide +kernel
theorem dX11_choose_262 : decode cX11_choose 262 = .ok (.invokevirtual 401, 3) := by decide +kernel
theorem dX11_choose_265 : decode cX11_choose 265 = .ok (.ireturn, 1) := by decide +kernel
theorem dX11_undo_0 : decode cX11_undo 0 = .ok (.aload_n 0, 1) := by decide +kernel
theorem dX11_undo_1 : decode cX11_undo 1 = .ok (.getfield 257, 3) := by decide +kernel
theorem dX11_undo_4 : decode cX11_undo 4 = .ok (.aload_n 0, 1) := by decide +kernel
theorem dX11_undo_5 : decode cX11_undo 5 = .ok (.getfield 260, 3) := by decide +kernel
theorem dX11_undo_8 : decode cX11_undo 8 = .ok (.if_icmp .ne 10, 3) := by decide +kernel
theorem dX11_undo_11 : decode cX11_undo 11 = .ok (.aload_n 0, 1) := by decide +kernel
theorem dX11_undo_12 : decode cX11_undo 12 = .ok (.bipush 8, 2) := by decide +kernel
theorem dX11_undo_14 : decode cX11_undo 14 = .ok (.invokevirtual 126, 3) := by decide +kernel
theorem dX11_undo_17 : decode cX11_undo 17 = .ok (.ireturn, 1) := by decide +kernel
theorem dX11_undo_18 : decode cX11_undo 18 = .ok (.aload_n 0, 1) := by decide +kernel
theorem dX11_undo_19 : decode cX11_undo 19 = .ok (.dup, 1) := by decide +kernel
theorem dX11_undo_20 : decode cX11_undo 20 = .ok (.getfield 257, 3) := by decide +kernel
theorem dX11_undo_23 : decode cX11_undo 23 = .ok (.iconst 1, 1) := by decide +kernel
theorem dX11_undo_24 : decode cX11_undo 24 = .ok (.isub, 1) := by decide +kernel
theorem dX11_undo_25 : decode cX11_undo 25 = .ok (.putfield 257, 3) := by decide +kernel
theorem dX11_undo_28 : decode cX11_undo 28 = .ok (.aload_n 0, 1) := by decide +kernel
theorem dX11_undo_29 : decode cX11_undo 29 = .ok (.dup, 1) := by decide +kernel
theorem dX11_undo_30 : decode cX11_undo 30 = .ok (.getfield 263, 3) := by decide +kernel
theorem dX11_undo_33 : decode cX11_undo 33 = .ok (.iconst 1, 1) := by decide +kernel
theorem dX11_undo_34 : decode cX11_undo 34 = .ok (.iadd, 1) := by decide +kernel
theorem dX11_undo_35 : decode cX11_undo 35 = .ok (.putfield 263, 3) := by decide +kernel
theorem dX11_undo_38 : decode cX11_undo 38 = .ok (.aload_n 0, 1) := by decide +kernel
theorem dX11_undo_39 : decode cX11_undo 39 = .ok (.aload_n 0, 1) := by decide +kernel
theorem dX11_undo_40 : decode cX11_undo 40 = .ok (.getfield 257, 3) := by decide +kernel
theorem dX11_undo_43 : decode cX11_undo 43 = .ok (.aload_n 0, 1) := by decide +kernel
theorem dX11_undo_44 : decode cX11_undo 44 = .ok (.getfield 260, 3) := by decide +kernel
theorem dX11_undo_47 : decode cX11_undo 47 = .ok (.isub, 1) := by decide +kernel
theorem dX11_undo_48 : decode cX11_undo 48 = .ok (.invokevirtual 419, 3) := by decide +kernel
theorem dX11_undo_51 : decode cX11_undo 51 = .ok (.aload_n 0, 1) := by decide +kernel
theorem dX11_undo_52 : decode cX11_undo 52 = .ok (.iconst 0, 1) := by decide +kernel
theorem dX11_undo_53 : decode cX11_undo 53 = .ok (.putfield 119, 3) := by decide +kernel
theorem dX11_undo_56 : decode cX11_undo 56 = .ok (.aload_n 0, 1) := by decide +kernel
theorem dX11_undo_57 : decode cX11_undo 57 = .ok (.getfield 257, 3) := by decide +kernel
theorem dX11_undo_60 : decode cX11_undo 60 = .ok (.iconst 1, 1) := by decide +kernel
theorem dX11_undo_61 : decode cX11_undo 61 = .ok (.iadd, 1) := by decide +kernel
theorem dX11_undo_62 : decode cX11_undo 62 = .ok (.ireturn, 1) := by decide +kernel
theorem dX11_redo_0 : decode cX11_redo 0 = .ok (.aload_n 0, 1) := by decide +kernel
theorem dX11_redo_1 : decode cX11_redo 1 = .ok (.getfield 263, 3) := by decide +kernel
theorem dX11_redo_4 : decode cX11_redo 4 = .ok (.ifCond .ne 10, 3) := by decide +kernel
theorem dX11_redo_7 : decode cX11_redo 7 = .ok (.aload_n 0, 1) := by decide +kernel
theorem dX11_redo_8 : decode cX11_redo 8 = .ok (.bipush 8, 2) := by decide +kernel
theorem dX11_redo_10 : decode cX11_redo 10 = .ok (.invokevirtual 126, 3) := by decide +kernel
theorem dX11_redo_13 : decode cX11_redo 13 = .ok (.ireturn, 1) := by decide +kernel
theorem dX11_redo_14 : decode cX11_redo 14 = .ok (.aload_n 0, 1) := by decide +kernel
theorem dX11_redo_15 : decode cX11_redo 15 = .ok (.dup, 1) := by decide +kernel
theorem dX11_redo_16 : decode cX11_redo 16 = .ok (.getfield 257, 3) := by decide +kernel
theorem dX11_redo_19 : decode cX11_redo 19 = .ok (.iconst 1, 1) := by decide +kernel
theorem dX11_redo_20 : decode cX11_redo 20 = .ok (.iadd, 1) := by decide +kernel
theorem dX11_redo_21 : decode cX11_redo 21 = .ok (.putfield 257, 3) := by decide +kernel
theorem dX11_redo_24 : decode cX11_redo 24 = .ok (.aload_n 0, 1) := by decide +kernel
theorem dX11_redo_25 : decode cX11_redo 25 = .ok (.dup, 1) := by decide +kernel
theorem dX11_redo_26 : decode cX11_redo 26 = .ok (.getfield 263, 3) := by decide +kernel
theorem dX11_redo_29 : decode cX11_redo 29 = .ok (.iconst 1, 1) := by decide +kernel
theorem dX11_redo_30 : decode cX11_redo 30 = .ok (.isub, 1) := by decide +kernel
theorem dX11_redo_31 : decode cX11_redo 31 = .ok (.putfield 263, 3) := by decide +kernel
theorem dX11_redo_34 : decode cX11_redo 34 = .ok (.aload_n 0, 1) := by decide +kernel
theorem dX11_redo_35 : decode cX11_redo 35 = .ok (.aload_n 0, 1) := by decide +kernel
theorem dX11_redo_36 : decode cX11_redo 36 = .ok (.getfield 257, 3) := by decide +kernel
theorem dX11_redo_39 : decode cX11_redo 39 = .ok (.aload_n 0, 1) := by decide +kernel
theorem dX11_redo_40 : decode cX11_redo 40 = .ok (.getfield 260, 3) := by decide +kernel
theorem dX11_redo_43 : decode cX11_redo 43 = .ok (.isub, 1) := by decide +kernel
theorem dX11_redo_44 : decode cX11_redo 44 = .ok (.invokevirtual 419, 3) := by decide +kernel
theorem dX11_redo_47 : decode cX11_redo 47 = .ok (.aload_n 0, 1) := by decide +kernel
theorem dX11_redo_48 : decode cX11_redo 48 = .ok (.iconst 0, 1) := by decide +kernel
theorem dX11_redo_49 : decode cX11_redo 49 = .ok (.putfield 119, 3) := by decide +kernel
theorem dX11_redo_52 : decode cX11_redo 52 = .ok (.aload_n 0, 1) := by decide +kernel
theorem dX11_redo_53 : decode cX11_redo 53 = .ok (.getfield 257, 3) := by decide +kernel
theorem dX11_redo_56 : decode cX11_redo 56 = .ok (.ireturn, 1) := by decide +kernel
theorem dX11_meets_0 : decode cX11_meets 0 = .ok (.aload_n 0, 1) := by decide +kernel
theorem dX11_meets_1 : decode cX11_meets 1 = .ok (.iload_n 1, 1) := by decide +kernel
theorem dX11_meets_2 : decode cX11_meets 2 = .ok (.invokevirtual 197, 3) := by decide +kernel
theorem dX11_meets_5 : decode cX11_meets 5 = .ok (.ifCond .eq 24, 3) := by decide +kernel
theorem dX11_meets_8 : decode cX11_meets 8 = .ok (.aload_n 0, 1) := by decide +kernel
theorem dX11_meets_9 : decode cX11_meets 9 = .ok (.iload_n 2, 1) := by decide +kernel
theorem dX11_meets_10 : decode cX11_meets 10 = .ok (.invokevirtual 197, 3) := by decide +kernel
theorem dX11_meets_13 : decode cX11_meets 13 = .ok (.ifCond .eq 16, 3) := by decide +kernel
theorem dX11_meets_16 : decode cX11_meets 16 = .ok (.aload_n 0, 1) := by decide +kernel
theorem dX11_meets_17 : decode cX11_meets 17 = .ok (.iload_n 1, 1) := by decide +kernel
theorem dX11_meets_18 : decode cX11_meets 18 = .ok (.iload_n 2, 1) := by decide +kernel
theorem dX11_meets_19 : decode cX11_meets 19 = .ok (.invokevirtual 200, 3) := by decide +kernel
theorem dX11_meets_22 : decode cX11_meets 22 = .ok (.ifCond .eq 7, 3) := by decide +kernel
theorem dX11_meets_25 : decode cX11_meets 25 = .ok (.iconst 1, 1) := by decide +kernel
theorem dX11_meets_26 : decode cX11_meets 26 = .ok (.goto 4, 3) := by decide +kernel
theorem dX11_meets_29 : decode cX11_meets 29 = .ok (.iconst 0, 1) := by decide +kernel
theorem dX11_meets_30 : decode cX11_meets 30 = .ok (.ireturn, 1) := by decide +kernel
theorem dX11_inside_0 : decode cX11_inside 0 = .ok (.aload_n 0, 1) := by decide +kernel
theorem dX11_inside_1 : decode cX11_inside 1 = .ok (.iload_n 3, 1) := by decide +kernel
theorem dX11_inside_2 : decode cX11_inside 2 = .ok (.invokevirtual 197, 3) := by decide +kernel
theorem dX11_inside_5 : decode cX11_inside 5 = .ok (.ifCond .eq 33, 3) := by decide +kernel
theorem dX11_inside_8 : decode cX11_inside 8 = .ok (.aload_n 0, 1) := by decide +kernel
theorem dX11_inside_9 : decode cX11_inside 9 = .ok (.iload_n 3, 1) := by decide +kernel
theorem dX11_inside_10 : decode cX11_inside 10 = .ok (.invokevirtual 161, 3) := by decide +kernel
theorem dX11_inside_13 : decode cX11_inside 13 = .ok (.ifCond .eq 25, 3) := by decide +kernel
theorem dX11_inside_16 : decode cX11_inside 16 = .ok (.iload_n 1, 1) := by decide +kernel
theorem dX11_inside_17 : decode cX11_inside 17 = .ok (.ifCond .lt 21, 3) := by decide +kernel
theorem dX11_inside_20 : decode cX11_inside 20 = .ok (.iload_n 1, 1) := by decide +kernel
theorem dX11_inside_21 : decode cX11_inside 21 = .ok (.sipush 1000, 3) := by decide +kernel
theorem dX11_inside_24 : decode cX11_inside 24 = .ok (.if_icmp .gt 14, 3) := by decide +kernel
theorem dX11_inside_27 : decode cX11_inside 27 = .ok (.iload_n 2, 1) := by decide +kernel
theorem dX11_inside_28 : decode cX11_inside 28 = .ok (.ifCond .lt 10, 3) := by decide +kernel
theorem dX11_inside_31 : decode cX11_inside 31 = .ok (.iload_n 2, 1) := by decide +kernel
theorem dX11_inside_32 : decode cX11_inside 32 = .ok (.sipush 1000, 3) := by decide +kernel
theorem dX11_inside_35 : decode cX11_inside 35 = .ok (.if_icmp .le 5, 3) := by decide +kernel
theorem dX11_inside_38 : decode cX11_inside 38 = .ok (.iconst (-1), 1) := by decide +kernel
theorem dX11_inside_39 : decode cX11_inside 39 = .ok (.ireturn, 1) := by decide +kernel
theorem dX11_inside_40 : decode cX11_inside 40 = .ok (.aload_n 0, 1) := by decide +kernel
theorem dX11_inside_41 : decode cX11_inside 41 = .ok (.iload_n 3, 1) := by decide +kernel
theorem dX11_inside_42 : decode cX11_inside 42 = .ok (.iload_n 1, 1) := by decide +kernel
theorem dX11_inside_43 : decode cX11_inside 43 = .ok (.iload_n 2, 1) := by decide +kernel
theorem dX11_inside_44 : decode cX11_inside 44 = .ok (.invokevirtual 175, 3) := by decide +kernel
theorem dX11_inside_47 : decode cX11_inside 47 = .ok (.ifCond .eq 7, 3) := by decide +kernel
theorem dX11_inside_50 : decode cX11_inside 50 = .ok (.iconst 2, 1) := by decide +kernel
theorem dX11_inside_51 : decode cX11_inside 51 = .ok (.goto 18, 3) := by decide +kernel
theorem dX11_inside_54 : decode cX11_inside 54 = .ok (.aload_n 0, 1) := by decide +kernel
theorem dX11_inside_55 : decode cX11_inside 55 = .ok (.iload_n 3, 1) := by decide +kernel
theorem dX11_inside_56 : decode cX11_inside 56 = .ok (.iload_n 1, 1) := by decide +kernel
theorem dX11_inside_57 : decode cX11_inside 57 = .ok (.iload_n 2, 1) := by decide +kernel
theorem dX11_inside_58 : decode cX11_inside 58 = .ok (.invokevirtual 204, 3) := by decide +kernel
theorem dX11_inside_61 : decode cX11_inside 61 = .ok (.ifCond .eq 7, 3) := by decide +kernel
theorem dX11_inside_64 : decode cX11_inside 64 = .ok (.iconst 1, 1) := by decide +kernel
theorem dX11_inside_65 : decode cX11_inside 65 = .ok (.goto 4, 3) := by decide +kernel
theorem dX11_inside_68 : decode cX11_inside 68 = .ok (.iconst 0, 1) := by decide +kernel
theorem dX11_inside_69 : decode cX11_inside 69 = .ok (.ireturn, 1) := by decide +kernel
theorem dX11_side_0 : decode cX11_side 0 = .ok (.iload_n 1, 1) := by decide +kernel
theorem dX11_side_1 : decode cX11_side 1 = .ok (.ifCond .lt 25, 3) := by decide +kernel
theorem dX11_side_4 : decode cX11_side 4 = .ok (.iload_n 1, 1) := by decide +kernel
theorem dX11_side_5 : decode cX11_side 5 = .ok (.sipush 1000, 3) := by decide +kernel
theorem dX11_side_8 : decode cX11_side 8 = .ok (.if_icmp .gt 18, 3) := by decide +kernel
theorem dX11_side_11 : decode cX11_side 11 = .ok (.iload_n 2, 1) := by decide +kernel
theorem dX11_side_12 : decode cX11_side 12 = .ok (.ifCond .lt 14, 3) := by decide +kernel
theorem dX11_side_15 : decode cX11_side 15 = .ok (.iload_n 2, 1) := by decide +kernel
theorem dX11_side_16 : decode cX11_side 16 = .ok (.sipush 1000, 3) := by decide +kernel
theorem dX11_side_19 : decode cX11_side 19 = .ok (.if_icmp .gt 7, 3) := by decide +kernel
theorem dX11_side_22 : decode cX11_side 22 = .ok (.iconst 1, 1) := by decide +kernel
theorem dX11_side_23 : decode cX11_side 23 = .ok (.goto 4, 3) := by decide +kernel
theorem dX11_side_26 : decode cX11_side 26 = .ok (.iconst 0, 1) := by decide +kernel
theorem dX11_side_27 : decode cX11_side 27 = .ok (.istore 5, 2) := by decide +kernel
theorem dX11_side_29 : decode cX11_side 29 = .ok (.iload 5, 2) := by decide +kernel
theorem dX11_side_31 : decode cX11_side 31 = .ok (.ifCond .eq 35, 3) := by decide +kernel
theorem dX11_side_34 : decode cX11_side 34 = .ok (.aload_n 0, 1) := by decide +kernel
theorem dX11_side_35 : decode cX11_side 35 = .ok (.iload_n 3, 1) := by decide +kernel
theorem dX11_side_36 : decode cX11_side 36 = .ok (.invokevirtual 197, 3) := by decide +kernel
theorem dX11_side_39 : decode cX11_side 39 = .ok (.ifCond .eq 27, 3) := by decide +kernel
theorem dX11_side_42 : decode cX11_side 42 = .ok (.aload_n 0, 1) := by decide +kernel
theorem dX11_side_43 : decode cX11_side 43 = .ok (.getfield 7, 3) := by decide +kernel
theorem dX11_side_46 : decode cX11_side 46 = .ok (.iload_n 3, 1) := by decide +kernel
theorem dX11_side_47 : decode cX11_side 47 = .ok (.iaload, 1) := by decide +kernel
theorem dX11_side_48 : decode cX11_side 48 = .ok (.ifCond .eq 18, 3) := by decide +kernel
theorem dX11_side_51 : decode cX11_side 51 = .ok (.iload 4, 2) := by decide +kernel
theorem dX11_side_53 : decode cX11_side 53 = .ok (.ifCond .lt 13, 3) := by decide +kernel
theorem dX11_side_56 : decode cX11_side 56 = .ok (.iload 4, 2) := by decide +kernel
theorem dX11_side_58 : decode cX11_side 58 = .ok (.aload_n 0, 1) := by decide +kernel
theorem dX11_side_59 : decode cX11_side 59 = .ok (.iload_n 3, 1) := by decide +kernel
theorem dX11_side_60 : decode cX11_side 60 = .ok (.invokevirtual 164, 3) := by decide +kernel
theorem dX11_side_63 : decode cX11_side 63 = .ok (.if_icmp .lt 5, 3) := by decide +kernel
theorem dX11_side_66 : decode cX11_side 66 = .ok (.iconst 0, 1) := by decide +kernel
theorem dX11_side_67 : decode cX11_side 67 = .ok (.ireturn, 1) := by decide +kernel
theorem dX11_side_68 : decode cX11_side 68 = .ok (.aload_n 0, 1) := by decide +kernel
theorem dX11_side_69 : decode cX11_side 69 = .ok (.iload_n 3, 1) := by decide +kernel
theorem dX11_side_70 : decode cX11_side 70 = .ok (.iload 4, 2) := by decide +kernel
theorem dX11_side_72 : decode cX11_side 72 = .ok (.iconst 0, 1) := by decide +kernel
theorem dX11_side_73 : decode cX11_side 73 = .ok (.invokevirtual 167, 3) := by decide +kernel
theorem dX11_side_76 : decode cX11_side 76 = .ok (.aload_n 0, 1) := by decide +kernel
theorem dX11_side_77 : decode cX11_side 77 = .ok (.getfield 83, 3) := by decide +kernel
theorem dX11_side_80 : decode cX11_side 80 = .ok (.iconst 0, 1) := by decide +kernel
theorem dX11_side_81 : decode cX11_side 81 = .ok (.iaload, 1) := by decide +kernel
theorem dX11_side_82 : decode cX11_side 82 = .ok (.i2l, 1) := by decide +kernel
theorem dX11_side_83 : decode cX11_side 83 = .ok (.aload_n 0, 1) := by decide +kernel
theorem dX11_side_84 : decode cX11_side 84 = .ok (.getfield 83, 3) := by decide +kernel
theorem dX11_side_87 : decode cX11_side 87 = .ok (.iconst 1, 1) := by decide +kernel
theorem dX11_side_88 : decode cX11_side 88 = .ok (.iaload, 1) := by decide +kernel
theorem dX11_side_89 : decode cX11_side 89 = .ok (.i2l, 1) := by decide +kernel
theorem dX11_side_90 : decode cX11_side 90 = .ok (.aload_n 0, 1) := by decide +kernel
theorem dX11_side_91 : decode cX11_side 91 = .ok (.getfield 83, 3) := by decide +kernel
theorem dX11_side_94 : decode cX11_side 94 = .ok (.iconst 2, 1) := by decide +kernel
theorem dX11_side_95 : decode cX11_side 95 = .ok (.iaload, 1) := by decide +kernel
theorem dX11_side_96 : decode cX11_side 96 = .ok (.i2l, 1) := by decide +kernel
theorem dX11_side_97 : decode cX11_side 97 = .ok (.aload_n 0, 1) := by decide +kernel
theorem dX11_side_98 : decode cX11_side 98 = .ok (.getfield 83, 3) := by decide +kernel
theorem dX11_side_101 : decode cX11_side 101 = .ok (.iconst 3, 1) := by decide +kernel
theorem dX11_side_102 : decode cX11_side 102 = .ok (.iaload, 1) := by decide +kernel
theorem dX11_side_103 : decode cX11_side 103 = .ok (.i2l, 1) := by decide +kernel
theorem dX11_side_104 : decode cX11_side 104 = .ok (.iload_n 1, 1) := by decide +kernel
theorem dX11_side_105 : decode cX11_side 105 = .ok (.i2l, 1) := by decide +kernel
theorem dX11_side_106 : decode cX11_side 106 = .ok (.iload_n 2, 1) := by decide +kernel
theorem dX11_side_107 : decode cX11_side 107 = .ok (.i2l, 1) := by decide +kernel
theorem dX11_side_108 : decode cX11_side 108 = .ok (.invokestatic 140, 3) := by decide +kernel
theorem dX11_side_111 : decode cX11_side 111 = .ok (.invokestatic 153, 3) := by decide +kernel
theorem dX11_side_114 : decode cX11_side 114 = .ok (.ireturn, 1) := by decide +kernel
theorem dX11_near_0 : decode cX11_near 0 = .ok (.aload_n 0, 1) := by decide +kernel
theorem dX11_near_1 : decode cX11_near 1 = .ok (.iload_n 1, 1) := by decide +kernel
theorem dX11_near_2 : decode cX11_near 2 = .ok (.invokevirtual 197, 3) := by decide +kernel
theorem dX11_near_5 : decode cX11_near 5 = .ok (.ifCond .eq 20, 3) := by decide +kernel
theorem dX11_near_8 : decode cX11_near 8 = .ok (.aload_n 0, 1) := by decide +kernel
theorem dX11_near_9 : decode cX11_near 9 = .ok (.iload_n 2, 1) := by decide +kernel
theorem dX11_near_10 : decode cX11_near 10 = .ok (.invokevirtual 197, 3) := by decide +kernel
theorem dX11_near_13 : decode cX11_near 13 = .ok (.ifCond .eq 12, 3) := by decide +kernel
theorem dX11_near_16 : decode cX11_near 16 = .ok (.iload_n 3, 1) := by decide +kernel
theorem dX11_near_17 : decode cX11_near 17 = .ok (.ifCond .lt 8, 3) := by decide +kernel
theorem dX11_near_20 : decode cX11_near 20 = .ok (.iload_n 3, 1) := by decide +kernel
theorem dX11_near_21 : decode cX11_near 21 = .ok (.iconst 1, 1) := by decide +kernel
theorem dX11_near_22 : decode cX11_near 22 = .ok (.if_icmp .le 7, 3) := by decide +kernel
theorem dX11_near_25 : decode cX11_near 25 = .ok (.ldc2_w 399, 3) := by decide +kernel
theorem dX11_near_28 : decode cX11_near 28 = .ok (.lreturn, 1) := by decide +kernel
theorem dX11_near_29 : decode cX11_near 29 = .ok (.aload_n 0, 1) := by decide +kernel
theorem dX11_near_30 : decode cX11_near 30 = .ok (.iload_n 1, 1) := by decide +kernel
theorem dX11_near_31 : decode cX11_near 31 = .ok (.iload_n 2, 1) := by decide +kernel
theorem dX11_near_32 : decode cX11_near 32 = .ok (.invokevirtual 389, 3) := by decide +kernel
theorem dX11_near_35 : decode cX11_near 35 = .ok (.iload_n 3, 1) := by decide +kernel
theorem dX11_near_36 : decode cX11_near 36 = .ok (.ifCond .ne 10, 3) := by decide +kernel
theorem dX11_near_39 : decode cX11_near 39 = .ok (.aload_n 0, 1) := by decide +kernel
theorem dX11_near_40 : decode cX11_near 40 = .ok (.getfield 375, 3) := by decide +kernel
theorem dX11_near_43 : decode cX11_near 43 = .ok (.goto 7, 3) := by decide +kernel
theorem dX11_near_46 : decode cX11_near 46 = .ok (.aload_n 0, 1) := by decide +kernel
theorem dX11_near_47 : decode cX11_near 47 = .ok (.getfield 371, 3) := by decide +kernel
theorem dX11_near_50 : decode cX11_near 50 = .ok (.lreturn, 1) := by decide +kernel
theorem dX11_isClash_0 : decode cX11_isClash 0 = .ok (.aload_n 0, 1) := by decide +kernel
theorem dX11_isClash_1 : decode cX11_isClash 1 = .ok (.iload_n 1, 1) := by decide +kernel
theorem dX11_isClash_2 : decode cX11_isClash 2 = .ok (.invokevirtual 197, 3) := by decide +kernel
theorem dX11_isClash_5 : decode cX11_isClash 5 = .ok (.ifCond .eq 20, 3) := by decide +kernel
theorem dX11_isClash_8 : decode cX11_isClash 8 = .ok (.aload_n 0, 1) := by decide +kernel
theorem dX11_isClash_9 : decode cX11_isClash 9 = .ok (.iload_n 2, 1) := by decide +kernel
theorem dX11_isClash_10 : decode cX11_isClash 10 = .ok (.invokevirtual 197, 3) := by decide +kernel
theorem dX11_isClash_13 : decode cX11_isClash 13 = .ok (.ifCond .eq 12, 3) := by decide +kernel
theorem dX11_isClash_16 : decode cX11_isClash 16 = .ok (.aload_n 0, 1) := by decide +kernel
theorem dX11_isClash_17 : decode cX11_isClash 17 = .ok (.iload_n 1, 1) := by decide +kernel
theorem dX11_isClash_18 : decode cX11_isClash 18 = .ok (.iload_n 2, 1) := by decide +kernel
theorem dX11_isClash_19 : decode cX11_isClash 19 = .ok (.invokevirtual 200, 3) := by decide +kernel
theorem dX11_isClash_22 : decode cX11_isClash 22 = .ok (.ifCond .eq 5, 3) := by decide +kernel
theorem dX11_isClash_25 : decode cX11_isClash 25 = .ok (.iconst 0, 1) := by decide +kernel
theorem dX11_isClash_26 : decode cX11_isClash 26 = .ok (.ireturn, 1) := by decide +kernel
theorem dX11_isClash_27 : decode cX11_isClash 27 = .ok (.aload_n 0, 1) := by decide +kernel
theorem dX11_isClash_28 : decode cX11_isClash 28 = .ok (.iload_n 1, 1) := by decide +kernel
theorem dX11_isClash_29 : decode cX11_isClash 29 = .ok (.iload_n 2, 1) := by decide +kernel
theorem dX11_isClash_30 : decode cX11_isClash 30 = .ok (.invokevirtual 389, 3) := by decide +kernel
theorem dX11_isClash_33 : decode cX11_isClash 33 = .ok (.aload_n 0, 1) := by decide +kernel
theorem dX11_isClash_34 : decode cX11_isClash 34 = .ok (.getfield 16, 3) := by decide +kernel
theorem dX11_isClash_37 : decode cX11_isClash 37 = .ok (.iload_n 1, 1) := by decide +kernel
theorem dX11_isClash_38 : decode cX11_isClash 38 = .ok (.iaload, 1) := by decide +kernel
theorem dX11_isClash_39 : decode cX11_isClash 39 = .ok (.aload_n 0, 1) := by decide +kernel
theorem dX11_isClash_40 : decode cX11_isClash 40 = .ok (.getfield 16, 3) := by decide +kernel
theorem dX11_isClash_43 : decode cX11_isClash 43 = .ok (.iload_n 2, 1) := by decide +kernel
theorem dX11_isClash_44 : decode cX11_isClash 44 = .ok (.iaload, 1) := by decide +kernel
theorem dX11_isClash_45 : decode cX11_isClash 45 = .ok (.iadd, 1) := by decide +kernel
theorem dX11_isClash_46 : decode cX11_isClash 46 = .ok (.i2l, 1) := by decide +kernel
theorem dX11_isClash_47 : decode cX11_isClash 47 = .ok (.ldc2_w 362, 3) := by decide +kernel
theorem dX11_isClash_50 : decode cX11_isClash 50 = .ok (.iload_n 3, 1) := by decide +kernel
theorem dX11_isClash_51 : decode cX11_isClash 51 = .ok (.i2l, 1) := by decide +kernel
theorem dX11_isClash_52 : decode cX11_isClash 52 = .ok (.lmul, 1) := by decide +kernel
theorem dX11_isClash_53 : decode cX11_isClash 53 = .ok (.ladd, 1) := by decide +kernel
theorem dX11_isClash_54 : decode cX11_isClash 54 = .ok (.lstore 4, 2) := by decide +kernel
theorem dX11_isClash_56 : decode cX11_isClash 56 = .ok (.ldc2_w 422, 3) := by decide +kernel
theorem dX11_isClash_59 : decode cX11_isClash 59 = .ok (.aload_n 0, 1) := by decide +kernel
theorem dX11_isClash_60 : decode cX11_isClash 60 = .ok (.getfield 375, 3) := by decide +kernel
theorem dX11_isClash_63 : decode cX11_isClash 63 = .ok (.lmul, 1) := by decide +kernel
theorem dX11_isClash_64 : decode cX11_isClash 64 = .ok (.lload 4, 2) := by decide +kernel
theorem dX11_isClash_66 : decode cX11_isClash 66 = .ok (.lload 4, 2) := by decide +kernel
theorem dX11_isClash_68 : decode cX11_isClash 68 = .ok (.lmul, 1) := by decide +kernel
theorem dX11_isClash_69 : decode cX11_isClash 69 = .ok (.aload_n 0, 1) := by decide +kernel
theorem dX11_isClash_70 : decode cX11_isClash 70 = .ok (.getfield 371, 3) := by decide +kernel
theorem dX11_isClash_73 : decode cX11_isClash 73 = .ok (.lmul, 1) := by decide +kernel
theorem dX11_isClash_74 : decode cX11_isClash 74 = .ok (.lcmp, 1) := by decide +kernel
theorem dX11_isClash_75 : decode cX11_isClash 75 = .ok (.ifCond .ge 7, 3) := by decide +kernel
theorem dX11_isClash_78 : decode cX11_isClash 78 = .ok (.iconst 1, 1) := by decide +kernel
theorem dX11_isClash_79 : decode cX11_isClash 79 = .ok (.goto 4, 3) := by decide +kernel
theorem dX11_isClash_82 : decode cX11_isClash 82 = .ok (.iconst 0, 1) := by decide +kernel
theorem dX11_isClash_83 : decode cX11_isClash 83 = .ok (.ireturn, 1) := by decide +kernel
theorem dX11_clashes_0 : decode cX11_clashes 0 = .ok (.iload_n 1, 1) := by decide +kernel
theorem dX11_clashes_1 : decode cX11_clashes 1 = .ok (.ifCond .lt 10, 3) := by decide +kernel
theorem dX11_clashes_4 : decode cX11_clashes 4 = .ok (.iload_n 1, 1) := by decide +kernel
theorem dX11_clashes_5 : decode cX11_clashes 5 = .ok (.sipush 200, 3) := by decide +kernel
theorem dX11_clashes_8 : decode cX11_clashes 8 = .ok (.if_icmp .le 5, 3) := by decide +kernel
theorem dX11_clashes_11 : decode cX11_clashes 11 = .ok (.iconst (-1), 1) := by decide +kernel
theorem dX11_clashes_12 : decode cX11_clashes 12 = .ok (.ireturn, 1) := by decide +kernel
theorem dX11_clashes_13 : decode cX11_clashes 13 = .ok (.iconst 0, 1) := by decide +kernel
theorem dX11_clashes_14 : decode cX11_clashes 14 = .ok (.istore_n 2, 1) := by decide +kernel
theorem dX11_clashes_15 : decode cX11_clashes 15 = .ok (.iconst 0, 1) := by decide +kernel
theorem dX11_clashes_16 : decode cX11_clashes 16 = .ok (.istore_n 3, 1) := by decide +kernel
theorem dX11_clashes_17 : decode cX11_clashes 17 = .ok (.iload_n 3, 1) := by decide +kernel
theorem dX11_clashes_18 : decode cX11_clashes 18 = .ok (.aload_n 0, 1) := by decide +kernel
theorem dX11_clashes_19 : decode cX11_clashes 19 = .ok (.getfield 130, 3) := by decide +kernel
theorem dX11_clashes_22 : decode cX11_clashes 22 = .ok (.if_icmp .ge 48, 3) := by decide +kernel
theorem dX11_clashes_25 : decode cX11_clashes 25 = .ok (.iload_n 3, 1) := by decide +kernel
theorem dX11_clashes_26 : decode cX11_clashes 26 = .ok (.iconst 1, 1) := by decide +kernel
theorem dX11_clashes_27 : decode cX11_clashes 27 = .ok (.iadd, 1) := by decide +kernel
theorem dX11_clashes_28 : decode cX11_clashes 28 = .ok (.istore 4, 2) := by decide +kernel
theorem dX11_clashes_30 : decode cX11_clashes 30 = .ok (.iload 4, 2) := by decide +kernel
theorem dX11_clashes_32 : decode cX11_clashes 32 = .ok (.aload_n 0, 1) := by decide +kernel
theorem dX11_clashes_33 : decode cX11_clashes 33 = .ok (.getfield 130, 3) := by decide +kernel
theorem dX11_clashes_36 : decode cX11_clashes 36 = .ok (.if_icmp .ge 28, 3) := by decide +kernel
theorem dX11_clashes_39 : decode cX11_clashes 39 = .ok (.iload_n 2, 1) := by decide +kernel
theorem dX11_clashes_40 : decode cX11_clashes 40 = .ok (.aload_n 0, 1) := by decide +kernel
theorem dX11_clashes_41 : decode cX11_clashes 41 = .ok (.iload_n 3, 1) := by decide +kernel
theorem dX11_clashes_42 : decode cX11_clashes 42 = .ok (.iload 4, 2) := by decide +kernel
theorem dX11_clashes_44 : decode cX11_clashes 44 = .ok (.iload_n 1, 1) := by decide +kernel
theorem dX11_clashes_45 : decode cX11_clashes 45 = .ok (.invokevirtual 424, 3) := by decide +kernel
theorem dX11_clashes_48 : decode cX11_clashes 48 = .ok (.ifCond .eq 7, 3) := by decide +kernel
theorem dX11_clashes_51 : decode cX11_clashes 51 = .ok (.iconst 1, 1) := by decide +kernel
theorem dX11_clashes_52 : decode cX11_clashes 52 = .ok (.goto 4, 3) := by decide +kernel
theorem dX11_clashes_55 : decode cX11_clashes 55 = .ok (.iconst 0, 1) := by decide +kernel
theorem dX11_clashes_56 : decode cX11_clashes 56 = .ok (.iadd, 1) := by decide +kernel
theorem dX11_clashes_57 : decode cX11_clashes 57 = .ok (.istore_n 2, 1) := by decide +kernel
theorem dX11_clashes_58 : decode cX11_clashes 58 = .ok (.iinc 4 1, 3) := by decide +kernel
theorem dX11_clashes_61 : decode cX11_clashes 61 = .ok (.goto (-31), 3) := by decide +kernel
theorem dX11_clashes_64 : decode cX11_clashes 64 = .ok (.iinc 3 1, 3) := by decide +kernel
theorem dX11_clashes_67 : decode cX11_clashes 67 = .ok (.goto (-50), 3) := by decide +kernel
theorem dX11_clashes_70 : decode cX11_clashes 70 = .ok (.iload_n 2, 1) := by decide +kernel
theorem dX11_clashes_71 : decode cX11_clashes 71 = .ok (.ireturn, 1) := by decide +kernel
theorem dX11_clash_0 : decode cX11_clash 0 = .ok (.iload_n 1, 1) := by decide +kernel
theorem dX11_clash_1 : decode cX11_clash 1 = .ok (.ifCond .lt 23, 3) := by decide +kernel
theorem dX11_clash_4 : decode cX11_clash 4 = .ok (.iload_n 1, 1) := by decide +kernel
theorem dX11_clash_5 : decode cX11_clash 5 = .ok (.sipush 200, 3) := by decide +kernel
theorem dX11_clash_8 : decode cX11_clash 8 = .ok (.if_icmp .gt 16, 3) := by decide +kernel
theorem dX11_clash_11 : decode cX11_clash 11 = .ok (.iload_n 2, 1) := by decide +kernel
theorem dX11_clash_12 : decode cX11_clash 12 = .ok (.ifCond .lt 12, 3) := by decide +kernel
theorem dX11_clash_15 : decode cX11_clash 15 = .ok (.iload_n 3, 1) := by decide +kernel
theorem dX11_clash_16 : decode cX11_clash 16 = .ok (.ifCond .lt 8, 3) := by decide +kernel
theorem dX11_clash_19 : decode cX11_clash 19 = .ok (.iload_n 3, 1) := by decide +kernel
theorem dX11_clash_20 : decode cX11_clash 20 = .ok (.iconst 1, 1) := by decide +kernel
theorem dX11_clash_21 : decode cX11_clash 21 = .ok (.if_icmp .le 5, 3) := by decide +kernel
theorem dX11_clash_24 : decode cX11_clash 24 = .ok (.iconst (-1), 1) := by decide +kernel
theorem dX11_clash_25 : decode cX11_clash 25 = .ok (.ireturn, 1) := by decide +kernel
theorem dX11_clash_26 : decode cX11_clash 26 = .ok (.iconst 0, 1) := by decide +kernel
theorem dX11_clash_27 : decode cX11_clash 27 = .ok (.istore 4, 2) := by decide +kernel
theorem dX11_clash_29 : decode cX11_clash 29 = .ok (.iconst 0, 1) := by decide +kernel
theorem dX11_clash_30 : decode cX11_clash 30 = .ok (.istore 5, 2) := by decide +kernel
theorem dX11_clash_32 : decode cX11_clash 32 = .ok (.iload 5, 2) := by decide +kernel
theorem dX11_clash_34 : decode cX11_clash 34 = .ok (.aload_n 0, 1) := by decide +kernel
theorem dX11_clash_35 : decode cX11_clash 35 = .ok (.getfield 130, 3) := by decide +kernel
theorem dX11_clash_38 : decode cX11_clash 38 = .ok (.if_icmp .ge 66, 3) := by decide +kernel
theorem dX11_clash_41 : decode cX11_clash 41 = .ok (.iload 5, 2) := by decide +kernel
theorem dX11_clash_43 : decode cX11_clash 43 = .ok (.iconst 1, 1) := by decide +kernel
theorem dX11_clash_44 : decode cX11_clash 44 = .ok (.iadd, 1) := by decide +kernel
theorem dX11_clash_45 : decode cX11_clash 45 = .ok (.istore 6, 2) := by decide +kernel
theorem dX11_clash_47 : decode cX11_clash 47 = .ok (.iload 6, 2) := by decide +kernel
theorem dX11_clash_49 : decode cX11_clash 49 = .ok (.aload_n 0, 1) := by decide +kernel
theorem dX11_clash_50 : decode cX11_clash 50 = .ok (.getfield 130, 3) := by decide +kernel
theorem dX11_clash_53 : decode cX11_clash 53 = .ok (.if_icmp .ge 45, 3) := by decide +kernel
theorem dX11_clash_56 : decode cX11_clash 56 = .ok (.aload_n 0, 1) := by decide +kernel
theorem dX11_clash_57 : decode cX11_clash 57 = .ok (.iload 5, 2) := by decide +kernel
theorem dX11_clash_59 : decode cX11_clash 59 = .ok (.iload 6, 2) := by decide +kernel
theorem dX11_clash_61 : decode cX11_clash 61 = .ok (.iload_n 1, 1) := by decide +kernel
theorem dX11_clash_62 : decode cX11_clash 62 = .ok (.invokevirtual 424, 3) := by decide +kernel
theorem dX11_clash_65 : decode cX11_clash 65 = .ok (.ifCond .ne 6, 3) := by decide +kernel
theorem dX11_clash_68 : decode cX11_clash 68 = .ok (.goto 24, 3) := by decide +kernel
theorem dX11_clash_71 : decode cX11_clash 71 = .ok (.iload 4, 2) := by decide +kernel
theorem dX11_clash_73 : decode cX11_clash 73 = .ok (.iload_n 2, 1) := by decide +kernel
theorem dX11_clash_74 : decode cX11_clash 74 = .ok (.if_icmp .ne 15, 3) := by decide +kernel
theorem dX11_clash_77 : decode cX11_clash 77 = .ok (.iload_n 3, 1) := by decide +kernel
theorem dX11_clash_78 : decode cX11_clash 78 = .ok (.ifCond .ne 8, 3) := by decide +kernel
theorem dX11_clash_81 : decode cX11_clash 81 = .ok (.iload 5, 2) := by decide +kernel
theorem dX11_clash_83 : decode cX11_clash 83 = .ok (.goto 5, 3) := by decide +kernel
theorem dX11_clash_86 : decode cX11_clash 86 = .ok (.iload 6, 2) := by decide +kernel
theorem dX11_clash_88 : decode cX11_clash 88 = .ok (.ireturn, 1) := by decide +kernel
theorem dX11_clash_89 : decode cX11_clash 89 = .ok (.iinc 4 1, 3) := by decide +kernel
theorem dX11_clash_92 : decode cX11_clash 92 = .ok (.iinc 6 1, 3) := by decide +kernel
theorem dX11_clash_95 : decode cX11_clash 95 = .ok (.goto (-48), 3) := by decide +kernel
theorem dX11_clash_98 : decode cX11_clash 98 = .ok (.iinc 5 1, 3) := by decide +kernel
theorem dX11_clash_101 : decode cX11_clash 101 = .ok (.goto (-69), 3) := by decide +kernel
theorem dX11_clash_104 : decode cX11_clash 104 = .ok (.iconst (-1), 1) := by decide +kernel
theorem dX11_clash_105 : decode cX11_clash 105 = .ok (.ireturn, 1) := by decide +kernel
theorem dX11_far_0 : decode cX11_far 0 = .ok (.aload_n 0, 1) := by decide +kernel
theorem dX11_far_1 : decode cX11_far 1 = .ok (.iload_n 1, 1) := by decide +kernel
theorem dX11_far_2 : decode cX11_far 2 = .ok (.invokevirtual 197, 3) := by decide +kernel
theorem dX11_far_5 : decode cX11_far 5 = .ok (.ifCond .eq 12, 3) := by decide +kernel
theorem dX11_far_8 : decode cX11_far 8 = .ok (.iload_n 2, 1) := by decide +kernel
theorem dX11_far_9 : decode cX11_far 9 = .ok (.ifCond .lt 8, 3) := by decide +kernel
theorem dX11_far_12 : decode cX11_far 12 = .ok (.iload_n 2, 1) := by decide +kernel
theorem dX11_far_13 : decode cX11_far 13 = .ok (.iconst 1, 1) := by decide +kernel
theorem dX11_far_14 : decode cX11_far 14 = .ok (.if_icmp .le 7, 3) := by decide +kernel
theorem dX11_far_17 : decode cX11_far 17 = .ok (.ldc2_w 399, 3) := by decide +kernel
theorem dX11_far_20 : decode cX11_far 20 = .ok (.lreturn, 1) := by decide +kernel
theorem dX11_far_21 : decode cX11_far 21 = .ok (.lconst 0, 1) := by decide +kernel
theorem dX11_far_22 : decode cX11_far 22 = .ok (.lstore_n 3, 1) := by decide +kernel
theorem dX11_far_23 : decode cX11_far 23 = .ok (.lconst 1, 1) := by decide +kernel
theorem dX11_far_24 : decode cX11_far 24 = .ok (.lstore 5, 2) := by decide +kernel
theorem dX11_far_26 : decode cX11_far 26 = .ok (.iconst 0, 1) := by decide +kernel
theorem dX11_far_27 : decode cX11_far 27 = .ok (.istore 7, 2) := by decide +kernel
theorem dX11_far_29 : decode cX11_far 29 = .ok (.iload 7, 2) := by decide +kernel
theorem dX11_far_31 : decode cX11_far 31 = .ok (.aload_n 0, 1) := by decide +kernel
theorem dX11_far_32 : decode cX11_far 32 = .ok (.getfield 279, 3) := by decide +kernel
theorem dX11_far_35 : decode cX11_far 35 = .ok (.if_icmp .ge 126, 3) := by decide +kernel
theorem dX11_far_38 : decode cX11_far 38 = .ok (.aload_n 0, 1) := by decide +kernel
theorem dX11_far_39 : decode cX11_far 39 = .ok (.getfield 59, 3) := by decide +kernel
theorem dX11_far_42 : decode cX11_far 42 = .ok (.iload 7, 2) := by decide +kernel
theorem dX11_far_44 : decode cX11_far 44 = .ok (.iaload, 1) := by decide +kernel
theorem dX11_far_45 : decode cX11_far 45 = .ok (.iload_n 1, 1) := by decide +kernel
theorem dX11_far_46 : decode cX11_far 46 = .ok (.if_icmp .ne 109, 3) := by decide +kernel
theorem dX11_far_49 : decode cX11_far 49 = .ok (.aload_n 0, 1) := by decide +kernel
theorem dX11_far_50 : decode cX11_far 50 = .ok (.getfield 68, 3) := by decide +kernel
theorem dX11_far_53 : decode cX11_far 53 = .ok (.iload 7, 2) := by decide +kernel
theorem dX11_far_55 : decode cX11_far 55 = .ok (.iaload, 1) := by decide +kernel
theorem dX11_far_56 : decode cX11_far 56 = .ok (.aload_n 0, 1) := by decide +kernel
theorem dX11_far_57 : decode cX11_far 57 = .ok (.getfield 257, 3) := by decide +kernel
theorem dX11_far_60 : decode cX11_far 60 = .ok (.if_icmp .le 6, 3) := by decide +kernel
theorem dX11_far_63 : decode cX11_far 63 = .ok (.goto 92, 3) := by decide +kernel
theorem dX11_far_66 : decode cX11_far 66 = .ok (.aload_n 0, 1) := by decide +kernel
theorem dX11_far_67 : decode cX11_far 67 = .ok (.lconst 0, 1) := by decide +kernel
theorem dX11_far_68 : decode cX11_far 68 = .ok (.putfield 375, 3) := by decide +kernel
theorem dX11_far_71 : decode cX11_far 71 = .ok (.aload_n 0, 1) := by decide +kernel
theorem dX11_far_72 : decode cX11_far 72 = .ok (.lconst 0, 1) := by decide +kernel
theorem dX11_far_73 : decode cX11_far 73 = .ok (.putfield 371, 3) := by decide +kernel
theorem dX11_far_76 : decode cX11_far 76 = .ok (.iconst 0, 1) := by decide +kernel
theorem dX11_far_77 : decode cX11_far 77 = .ok (.istore 8, 2) := by decide +kernel
theorem dX11_far_79 : decode cX11_far 79 = .ok (.iload 8, 2) := by decide +kernel
theorem dX11_far_81 : decode cX11_far 81 = .ok (.aload_n 0, 1) := by decide +kernel
theorem dX11_far_82 : decode cX11_far 82 = .ok (.iload_n 1, 1) := by decide +kernel
theorem dX11_far_83 : decode cX11_far 83 = .ok (.invokevirtual 164, 3) := by decide +kernel
theorem dX11_far_86 : decode cX11_far 86 = .ok (.if_icmp .ge 40, 3) := by decide +kernel
theorem dX11_far_89 : decode cX11_far 89 = .ok (.aload_n 0, 1) := by decide +kernel
theorem dX11_far_90 : decode cX11_far 90 = .ok (.iload_n 1, 1) := by decide +kernel
theorem dX11_far_91 : decode cX11_far 91 = .ok (.iload 8, 2) := by decide +kernel
theorem dX11_far_93 : decode cX11_far 93 = .ok (.iconst 0, 1) := by decide +kernel
theorem dX11_far_94 : decode cX11_far 94 = .ok (.invokevirtual 167, 3) := by decide +kernel
theorem dX11_far_97 : decode cX11_far 97 = .ok (.aload_n 0, 1) := by decide +kernel
theorem dX11_far_98 : decode cX11_far 98 = .ok (.aload_n 0, 1) := by decide +kernel
theorem dX11_far_99 : decode cX11_far 99 = .ok (.getfield 83, 3) := by decide +kernel
theorem dX11_far_102 : decode cX11_far 102 = .ok (.aload_n 0, 1) := by decide +kernel
theorem dX11_far_103 : decode cX11_far 103 = .ok (.getfield 62, 3) := by decide +kernel
theorem dX11_far_106 : decode cX11_far 106 = .ok (.iload 7, 2) := by decide +kernel
theorem dX11_far_108 : decode cX11_far 108 = .ok (.iaload, 1) := by decide +kernel
theorem dX11_far_109 : decode cX11_far 109 = .ok (.aload_n 0, 1) := by decide +kernel
theorem dX11_far_110 : decode cX11_far 110 = .ok (.getfield 65, 3) := by decide +kernel
theorem dX11_far_113 : decode cX11_far 113 = .ok (.iload 7, 2) := by decide +kernel
theorem dX11_far_115 : decode cX11_far 115 = .ok (.iaload, 1) := by decide +kernel
theorem dX11_far_116 : decode cX11_far 116 = .ok (.iconst 0, 1) := by decide +kernel
theorem dX11_far_117 : decode cX11_far 117 = .ok (.invokevirtual 382, 3) := by decide +kernel
theorem dX11_far_120 : decode cX11_far 120 = .ok (.iinc 8 1, 3) := by decide +kernel
theorem dX11_far_123 : decode cX11_far 123 = .ok (.goto (-44), 3) := by decide +kernel
theorem dX11_far_126 : decode cX11_far 126 = .ok (.aload_n 0, 1) := by decide +kernel
theorem dX11_far_127 : decode cX11_far 127 = .ok (.lload_n 3, 1) := by decide +kernel
theorem dX11_far_128 : decode cX11_far 128 = .ok (.lload 5, 2) := by decide +kernel
theorem dX11_far_130 : decode cX11_far 130 = .ok (.aload_n 0, 1) := by decide +kernel
theorem dX11_far_131 : decode cX11_far 131 = .ok (.getfield 375, 3) := by decide +kernel
theorem dX11_far_134 : decode cX11_far 134 = .ok (.aload_n 0, 1) := by decide +kernel
theorem dX11_far_135 : decode cX11_far 135 = .ok (.getfield 371, 3) := by decide +kernel
theorem dX11_far_138 : decode cX11_far 138 = .ok (.invokevirtual 378, 3) := by decide +kernel
theorem dX11_far_141 : decode cX11_far 141 = .ok (.ifCond .eq 14, 3) := by decide +kernel
theorem dX11_far_144 : decode cX11_far 144 = .ok (.aload_n 0, 1) := by decide +kernel
theorem dX11_far_145 : decode cX11_far 145 = .ok (.getfield 375, 3) := by decide +kernel
theorem dX11_far_148 : decode cX11_far 148 = .ok (.lstore_n 3, 1) := by decide +kernel
theorem dX11_far_149 : decode cX11_far 149 = .ok (.aload_n 0, 1) := by decide +kernel
theorem dX11_far_150 : decode cX11_far 150 = .ok (.getfield 371, 3) := by decide +kernel
theorem dX11_far_153 : decode cX11_far 153 = .ok (.lstore 5, 2) := by decide +kernel
theorem dX11_far_155 : decode cX11_far 155 = .ok (.iinc 7 1, 3) := by decide +kernel
theorem dX11_far_158 : decode cX11_far 158 = .ok (.goto (-129), 3) := by decide +kernel
theorem dX11_far_161 : decode cX11_far 161 = .ok (.aload_n 0, 1) := by decide +kernel
theorem dX11_far_162 : decode cX11_far 162 = .ok (.lload_n 3, 1) := by decide +kernel
theorem dX11_far_163 : decode cX11_far 163 = .ok (.putfield 375, 3) := by decide +kernel
theorem dX11_far_166 : decode cX11_far 166 = .ok (.aload_n 0, 1) := by decide +kernel
theorem dX11_far_167 : decode cX11_far 167 = .ok (.lload 5, 2) := by decide +kernel
theorem dX11_far_169 : decode cX11_far 169 = .ok (.putfield 371, 3) := by decide +kernel
theorem dX11_far_172 : decode cX11_far 172 = .ok (.aload_n 0, 1) := by decide +kernel
theorem dX11_far_173 : decode cX11_far 173 = .ok (.invokevirtual 386, 3) := by decide +kernel
theorem dX11_far_176 : decode cX11_far 176 = .ok (.iload_n 2, 1) := by decide +kernel
theorem dX11_far_177 : decode cX11_far 177 = .ok (.ifCond .ne 10, 3) := by decide +kernel
theorem dX11_far_180 : decode cX11_far 180 = .ok (.aload_n 0, 1) := by decide +kernel
theorem dX11_far_181 : decode cX11_far 181 = .ok (.getfield 375, 3) := by decide +kernel
theorem dX11_far_184 : decode cX11_far 184 = .ok (.goto 7, 3) := by decide +kernel
theorem dX11_far_187 : decode cX11_far 187 = .ok (.aload_n 0, 1) := by decide +kernel
theorem dX11_far_188 : decode cX11_far 188 = .ok (.getfield 371, 3) := by decide +kernel
theorem dX11_far_191 : decode cX11_far 191 = .ok (.lreturn, 1) := by decide +kernel
theorem dX11_size_0 : decode cX11_size 0 = .ok (.aload_n 0, 1) := by decide +kernel
theorem dX11_size_1 : decode cX11_size 1 = .ok (.iload_n 1, 1) := by decide +kernel
theorem dX11_size_2 : decode cX11_size 2 = .ok (.invokevirtual 197, 3) := by decide +kernel
theorem dX11_size_5 : decode cX11_size 5 = .ok (.ifCond .ne 7, 3) := by decide +kernel
theorem dX11_size_8 : decode cX11_size 8 = .ok (.ldc2_w 399, 3) := by decide +kernel
theorem dX11_size_11 : decode cX11_size 11 = .ok (.lreturn, 1) := by decide +kernel
theorem dX11_size_12 : decode cX11_size 12 = .ok (.aload_n 0, 1) := by decide +kernel
theorem dX11_size_13 : decode cX11_size 13 = .ok (.getfield 7, 3) := by decide +kernel
theorem dX11_size_16 : decode cX11_size 16 = .ok (.iload_n 1, 1) := by decide +kernel
theorem dX11_size_17 : decode cX11_size 17 = .ok (.iaload, 1) := by decide +kernel
theorem dX11_size_18 : decode cX11_size 18 = .ok (.ifCond .ne 7, 3) := by decide +kernel
theorem dX11_size_21 : decode cX11_size 21 = .ok (.lconst 0, 1) := by decide +kernel
theorem dX11_size_22 : decode cX11_size 22 = .ok (.goto 24, 3) := by decide +kernel
theorem dX11_size_25 : decode cX11_size 25 = .ok (.aload_n 0, 1) := by decide +kernel
theorem dX11_size_26 : decode cX11_size 26 = .ok (.iload_n 1, 1) := by decide +kernel
theorem dX11_size_27 : decode cX11_size 27 = .ok (.invokevirtual 161, 3) := by decide +kernel
theorem dX11_size_30 : decode cX11_size 30 = .ok (.ifCond .eq 11, 3) := by decide +kernel
theorem dX11_size_33 : decode cX11_size 33 = .ok (.aload_n 0, 1) := by decide +kernel
theorem dX11_size_34 : decode cX11_size 34 = .ok (.iload_n 1, 1) := by decide +kernel
theorem dX11_size_35 : decode cX11_size 35 = .ok (.invokevirtual 364, 3) := by decide +kernel
theorem dX11_size_38 : decode cX11_size 38 = .ok (.goto 8, 3) := by decide +kernel
theorem dX11_size_41 : decode cX11_size 41 = .ok (.aload_n 0, 1) := by decide +kernel
theorem dX11_size_42 : decode cX11_size 42 = .ok (.iload_n 1, 1) := by decide +kernel
theorem dX11_size_43 : decode cX11_size 43 = .ok (.invokevirtual 407, 3) := by decide +kernel
theorem dX11_size_46 : decode cX11_size 46 = .ok (.lreturn, 1) := by decide +kernel
theorem dX11_at_0 : decode cX11_at 0 = .ok (.aload_n 0, 1) := by decide +kernel
theorem dX11_at_1 : decode cX11_at 1 = .ok (.iload_n 1, 1) := by decide +kernel
theorem dX11_at_2 : decode cX11_at 2 = .ok (.invokevirtual 133, 3) := by decide +kernel
theorem dX11_at_5 : decode cX11_at 5 = .ok (.ifCond .eq 26, 3) := by decide +kernel
theorem dX11_at_8 : decode cX11_at 8 = .ok (.aload_n 0, 1) := by decide +kernel
theorem dX11_at_9 : decode cX11_at 9 = .ok (.getfield 25, 3) := by decide +kernel
theorem dX11_at_12 : decode cX11_at 12 = .ok (.iload_n 1, 1) := by decide +kernel
theorem dX11_at_13 : decode cX11_at 13 = .ok (.baload, 1) := by decide +kernel
theorem dX11_at_14 : decode cX11_at 14 = .ok (.ifCond .ne 17, 3) := by decide +kernel
theorem dX11_at_17 : decode cX11_at 17 = .ok (.iload_n 2, 1) := by decide +kernel
theorem dX11_at_18 : decode cX11_at 18 = .ok (.ifCond .lt 13, 3) := by decide +kernel
theorem dX11_at_21 : decode cX11_at 21 = .ok (.iload_n 2, 1) := by decide +kernel
theorem dX11_at_22 : decode cX11_at 22 = .ok (.aload_n 0, 1) := by decide +kernel
theorem dX11_at_23 : decode cX11_at 23 = .ok (.getfield 41, 3) := by decide +kernel
theorem dX11_at_26 : decode cX11_at 26 = .ok (.iload_n 1, 1) := by decide +kernel
theorem dX11_at_27 : decode cX11_at 27 = .ok (.iaload, 1) := by decide +kernel
theorem dX11_at_28 : decode cX11_at 28 = .ok (.if_icmp .lt 5, 3) := by decide +kernel
theorem dX11_at_31 : decode cX11_at 31 = .ok (.iconst (-1), 1) := by decide +kernel
theorem dX11_at_32 : decode cX11_at 32 = .ok (.ireturn, 1) := by decide +kernel
theorem dX11_at_33 : decode cX11_at 33 = .ok (.iload_n 3, 1) := by decide +kernel
theorem dX11_at_34 : decode cX11_at 34 = .ok (.ifCond .ne 17, 3) := by decide +kernel
theorem dX11_at_37 : decode cX11_at 37 = .ok (.aload_n 0, 1) := by decide +kernel
theorem dX11_at_38 : decode cX11_at 38 = .ok (.getfield 44, 3) := by decide +kernel
theorem dX11_at_41 : decode cX11_at 41 = .ok (.bipush 40, 2) := by decide +kernel
theorem dX11_at_43 : decode cX11_at 43 = .ok (.iload_n 1, 1) := by decide +kernel
theorem dX11_at_44 : decode cX11_at 44 = .ok (.imul, 1) := by decide +kernel
theorem dX11_at_45 : decode cX11_at 45 = .ok (.iload_n 2, 1) := by decide +kernel
theorem dX11_at_46 : decode cX11_at 46 = .ok (.iadd, 1) := by decide +kernel
theorem dX11_at_47 : decode cX11_at 47 = .ok (.iaload, 1) := by decide +kernel
theorem dX11_at_48 : decode cX11_at 48 = .ok (.goto 23, 3) := by decide +kernel
theorem dX11_at_51 : decode cX11_at 51 = .ok (.iload_n 3, 1) := by decide +kernel
theorem dX11_at_52 : decode cX11_at 52 = .ok (.iconst 1, 1) := by decide +kernel
theorem dX11_at_53 : decode cX11_at 53 = .ok (.if_icmp .ne 17, 3) := by decide +kernel
theorem dX11_at_56 : decode cX11_at 56 = .ok (.aload_n 0, 1) := by decide +kernel
theorem dX11_at_57 : decode cX11_at 57 = .ok (.getfield 47, 3) := by decide +kernel
theorem dX11_at_60 : decode cX11_at 60 = .ok (.bipush 40, 2) := by decide +kernel
theorem dX11_at_62 : decode cX11_at 62 = .ok (.iload_n 1, 1) := by decide +kernel
theorem dX11_at_63 : decode cX11_at 63 = .ok (.imul, 1) := by decide +kernel
theorem dX11_at_64 : decode cX11_at 64 = .ok (.iload_n 2, 1) := by decide +kernel
theorem dX11_at_65 : decode cX11_at 65 = .ok (.iadd, 1) := by decide +kernel
theorem dX11_at_66 : decode cX11_at 66 = .ok (.iaload, 1) := by decide +kernel
theorem dX11_at_67 : decode cX11_at 67 = .ok (.goto 4, 3) := by decide +kernel
theorem dX11_at_70 : decode cX11_at 70 = .ok (.iconst (-1), 1) := by decide +kernel
theorem dX11_at_71 : decode cX11_at 71 = .ok (.ireturn, 1) := by decide +kernel
theorem dX11_told_0 : decode cX11_told 0 = .ok (.aload_n 0, 1) := by decide +kernel
theorem dX11_told_1 : decode cX11_told 1 = .ok (.iload_n 1, 1) := by decide +kernel
theorem dX11_told_2 : decode cX11_told 2 = .ok (.invokevirtual 133, 3) := by decide +kernel
theorem dX11_told_5 : decode cX11_told 5 = .ok (.ifCond .ne 5, 3) := by decide +kernel
theorem dX11_told_8 : decode cX11_told 8 = .ok (.iconst (-1), 1) := by decide +kernel
theorem dX11_told_9 : decode cX11_told 9 = .ok (.ireturn, 1) := by decide +kernel
theorem dX11_told_10 : decode cX11_told 10 = .ok (.iload_n 2, 1) := by decide +kernel
theorem dX11_told_11 : decode cX11_told 11 = .ok (.tableswitch 155 0 10 #[57, 64, 71, 78, 85, 105, 112, 127, 134, 141, 148], 57) := by decide +kernel
theorem dX11_told_68 : decode cX11_told 68 = .ok (.aload_n 0, 1) := by decide +kernel
theorem dX11_told_69 : decode cX11_told 69 = .ok (.getfield 7, 3) := by decide +kernel
theorem dX11_told_72 : decode cX11_told 72 = .ok (.iload_n 1, 1) := by decide +kernel
theorem dX11_told_73 : decode cX11_told 73 = .ok (.iaload, 1) := by decide +kernel
theorem dX11_told_74 : decode cX11_told 74 = .ok (.ireturn, 1) := by decide +kernel
theorem dX11_told_75 : decode cX11_told 75 = .ok (.aload_n 0, 1) := by decide +kernel
theorem dX11_told_76 : decode cX11_told 76 = .ok (.getfield 13, 3) := by decide +kernel
theorem dX11_told_79 : decode cX11_told 79 = .ok (.iload_n 1, 1) := by decide +kernel
theorem dX11_told_80 : decode cX11_told 80 = .ok (.iaload, 1) := by decide +kernel
theorem dX11_told_81 : decode cX11_told 81 = .ok (.ireturn, 1) := by decide +kernel
theorem dX11_told_82 : decode cX11_told 82 = .ok (.aload_n 0, 1) := by decide +kernel
theorem dX11_told_83 : decode cX11_told 83 = .ok (.getfield 16, 3) := by decide +kernel
theorem dX11_told_86 : decode cX11_told 86 = .ok (.iload_n 1, 1) := by decide +kernel
theorem dX11_told_87 : decode cX11_told 87 = .ok (.iaload, 1) := by decide +kernel
theorem dX11_told_88 : decode cX11_told 88 = .ok (.ireturn, 1) := by decide +kernel
theorem dX11_told_89 : decode cX11_told 89 = .ok (.aload_n 0, 1) := by decide +kernel
theorem dX11_told_90 : decode cX11_told 90 = .ok (.getfield 19, 3) := by decide +kernel
theorem dX11_told_93 : decode cX11_told 93 = .ok (.iload_n 1, 1) := by decide +kernel
theorem dX11_told_94 : decode cX11_told 94 = .ok (.iaload, 1) := by decide +kernel
theorem dX11_told_95 : decode cX11_told 95 = .ok (.ireturn, 1) := by decide +kernel
theorem dX11_told_96 : decode cX11_told 96 = .ok (.aload_n 0, 1) := by decide +kernel
theorem dX11_told_97 : decode cX11_told 97 = .ok (.getfield 25, 3) := by decide +kernel
theorem dX11_told_100 : decode cX11_told 100 = .ok (.iload_n 1, 1) := by decide +kernel
theorem dX11_told_101 : decode cX11_told 101 = .ok (.baload, 1) := by decide +kernel
theorem dX11_told_102 : decode cX11_told 102 = .ok (.ifCond .eq 7, 3) := by decide +kernel
theorem dX11_told_105 : decode cX11_told 105 = .ok (.iconst 0, 1) := by decide +kernel
theorem dX11_told_106 : decode cX11_told 106 = .ok (.goto 9, 3) := by decide +kernel
theorem dX11_told_109 : decode cX11_told 109 = .ok (.aload_n 0, 1) := by decide +kernel
theorem dX11_told_110 : decode cX11_told 110 = .ok (.getfield 41, 3) := by decide +kernel
theorem dX11_told_113 : decode cX11_told 113 = .ok (.iload_n 1, 1) := by decide +kernel
theorem dX11_told_114 : decode cX11_told 114 = .ok (.iaload, 1) := by decide +kernel
theorem dX11_told_115 : decode cX11_told 115 = .ok (.ireturn, 1) := by decide +kernel
theorem dX11_told_116 : decode cX11_told 116 = .ok (.aload_n 0, 1) := by decide +kernel
theorem dX11_told_117 : decode cX11_told 117 = .ok (.getfield 22, 3) := by decide +kernel
theorem dX11_told_120 : decode cX11_told 120 = .ok (.iload_n 1, 1) := by decide +kernel
theorem dX11_told_121 : decode cX11_told 121 = .ok (.iaload, 1) := by decide +kernel
theorem dX11_told_122 : decode cX11_told 122 = .ok (.ireturn, 1) := by decide +kernel
theorem dX11_told_123 : decode cX11_told 123 = .ok (.aload_n 0, 1) := by decide +kernel
theorem dX11_told_124 : decode cX11_told 124 = .ok (.getfield 25, 3) := by decide +kernel
theorem dX11_told_127 : decode cX11_told 127 = .ok (.iload_n 1, 1) := by decide +kernel
theorem dX11_told_128 : decode cX11_told 128 = .ok (.baload, 1) := by decide +kernel
theorem dX11_told_129 : decode cX11_told 129 = .ok (.ifCond .eq 7, 3) := by decide +kernel
theorem dX11_told_132 : decode cX11_told 132 = .ok (.iconst 1, 1) := by decide +kernel
theorem dX11_told_133 : decode cX11_told 133 = .ok (.goto 4, 3) := by decide +kernel
theorem dX11_told_136 : decode cX11_told 136 = .ok (.iconst 0, 1) := by decide +kernel
theorem dX11_told_137 : decode cX11_told 137 = .ok (.ireturn, 1) := by decide +kernel
theorem dX11_told_138 : decode cX11_told 138 = .ok (.aload_n 0, 1) := by decide +kernel
theorem dX11_told_139 : decode cX11_told 139 = .ok (.getfield 29, 3) := by decide +kernel
theorem dX11_told_142 : decode cX11_told 142 = .ok (.iload_n 1, 1) := by decide +kernel
theorem dX11_told_143 : decode cX11_told 143 = .ok (.iaload, 1) := by decide +kernel
theorem dX11_told_144 : decode cX11_told 144 = .ok (.ireturn, 1) := by decide +kernel
theorem dX11_told_145 : decode cX11_told 145 = .ok (.aload_n 0, 1) := by decide +kernel
theorem dX11_told_146 : decode cX11_told 146 = .ok (.getfield 32, 3) := by decide +kernel
theorem dX11_told_149 : decode cX11_told 149 = .ok (.iload_n 1, 1) := by decide +kernel
theorem dX11_told_150 : decode cX11_told 150 = .ok (.iaload, 1) := by decide +kernel
theorem dX11_told_151 : decode cX11_told 151 = .ok (.ireturn, 1) := by decide +kernel
theorem dX11_told_152 : decode cX11_told 152 = .ok (.aload_n 0, 1) := by decide +kernel
theorem dX11_told_153 : decode cX11_told 153 = .ok (.getfield 35, 3) := by decide +kernel
theorem dX11_told_156 : decode cX11_told 156 = .ok (.iload_n 1, 1) := by decide +kernel
theorem dX11_told_157 : decode cX11_told 157 = .ok (.iaload, 1) := by decide +kernel
theorem dX11_told_158 : decode cX11_told 158 = .ok (.ireturn, 1) := by decide +kernel
theorem dX11_told_159 : decode cX11_told 159 = .ok (.aload_n 0, 1) := by decide +kernel
theorem dX11_told_160 : decode cX11_told 160 = .ok (.getfield 38, 3) := by decide +kernel
theorem dX11_told_163 : decode cX11_told 163 = .ok (.iload_n 1, 1) := by decide +kernel
theorem dX11_told_164 : decode cX11_told 164 = .ok (.iaload, 1) := by decide +kernel
theorem dX11_told_165 : decode cX11_told 165 = .ok (.ireturn, 1) := by decide +kernel
theorem dX11_told_166 : decode cX11_told 166 = .ok (.iconst (-1), 1) := by decide +kernel
theorem dX11_told_167 : decode cX11_told 167 = .ok (.ireturn, 1) := by decide +kernel
theorem dX11_step_0 : decode cX11_step 0 = .ok (.iload_n 1, 1) := by decide +kernel
theorem dX11_step_1 : decode cX11_step 1 = .ok (.iconst 1, 1) := by decide +kernel
theorem dX11_step_2 : decode cX11_step 2 = .ok (.if_icmp .lt 16, 3) := by decide +kernel
theorem dX11_step_5 : decode cX11_step 5 = .ok (.iload_n 1, 1) := by decide +kernel
theorem dX11_step_6 : decode cX11_step 6 = .ok (.aload_n 0, 1) := by decide +kernel
theorem dX11_step_7 : decode cX11_step 7 = .ok (.getfield 257, 3) := by decide +kernel
theorem dX11_step_10 : decode cX11_step 10 = .ok (.aload_n 0, 1) := by decide +kernel
theorem dX11_step_11 : decode cX11_step 11 = .ok (.getfield 263, 3) := by decide +kernel
theorem dX11_step_14 : decode cX11_step 14 = .ok (.iadd, 1) := by decide +kernel
theorem dX11_step_15 : decode cX11_step 15 = .ok (.if_icmp .le 5, 3) := by decide +kernel
theorem dX11_step_18 : decode cX11_step 18 = .ok (.iconst (-1), 1) := by decide +kernel
theorem dX11_step_19 : decode cX11_step 19 = .ok (.ireturn, 1) := by decide +kernel
theorem dX11_step_20 : decode cX11_step 20 = .ok (.iload_n 2, 1) := by decide +kernel
theorem dX11_step_21 : decode cX11_step 21 = .ok (.tableswitch 66 0 3 #[31, 38, 45, 52], 31) := by decide +kernel
theorem dX11_step_52 : decode cX11_step 52 = .ok (.aload_n 0, 1) := by decide +kernel
theorem dX11_step_53 : decode cX11_step 53 = .ok (.getfield 50, 3) := by decide +kernel
theorem dX11_step_56 : decode cX11_step 56 = .ok (.iload_n 1, 1) := by decide +kernel
theorem dX11_step_57 : decode cX11_step 57 = .ok (.iaload, 1) := by decide +kernel
theorem dX11_step_58 : decode cX11_step 58 = .ok (.ireturn, 1) := by decide +kernel
theorem dX11_step_59 : decode cX11_step 59 = .ok (.aload_n 0, 1) := by decide +kernel
theorem dX11_step_60 : decode cX11_step 60 = .ok (.getfield 53, 3) := by decide +kernel
theorem dX11_step_63 : decode cX11_step 63 = .ok (.iload_n 1, 1) := by decide +kernel
theorem dX11_step_64 : decode cX11_step 64 = .ok (.iaload, 1) := by decide +kernel
theorem dX11_step_65 : decode cX11_step 65 = .ok (.ireturn, 1) := by decide +kernel
theorem dX11_step_66 : decode cX11_step 66 = .ok (.aload_n 0, 1) := by decide +kernel
theorem dX11_step_67 : decode cX11_step 67 = .ok (.getfield 56, 3) := by decide +kernel
theorem dX11_step_70 : decode cX11_step 70 = .ok (.iload_n 1, 1) := by decide +kernel
theorem dX11_step_71 : decode cX11_step 71 = .ok (.iaload, 1) := by decide +kernel
theorem dX11_step_72 : decode cX11_step 72 = .ok (.ireturn, 1) := by decide +kernel
theorem dX11_step_73 : decode cX11_step 73 = .ok (.iload_n 1, 1) := by decide +kernel
theorem dX11_step_74 : decode cX11_step 74 = .ok (.aload_n 0, 1) := by decide +kernel
theorem dX11_step_75 : decode cX11_step 75 = .ok (.getfield 257, 3) := by decide +kernel
theorem dX11_step_78 : decode cX11_step 78 = .ok (.if_icmp .gt 7, 3) := by decide +kernel
theorem dX11_step_81 : decode cX11_step 81 = .ok (.iconst 1, 1) := by decide +kernel
theorem dX11_step_82 : decode cX11_step 82 = .ok (.goto 4, 3) := by decide +kernel
theorem dX11_step_85 : decode cX11_step 85 = .ok (.iconst 0, 1) := by decide +kernel
theorem dX11_step_86 : decode cX11_step 86 = .ok (.ireturn, 1) := by decide +kernel
theorem dX11_step_87 : decode cX11_step 87 = .ok (.iconst (-1), 1) := by decide +kernel
theorem dX11_step_88 : decode cX11_step 88 = .ok (.ireturn, 1) := by decide +kernel
theorem dX11_count_0 : decode cX11_count 0 = .ok (.iconst 0, 1) := by decide +kernel
theorem dX11_count_1 : decode cX11_count 1 = .ok (.istore_n 2, 1) := by decide +kernel
theorem dX11_count_2 : decode cX11_count 2 = .ok (.iconst 0, 1) := by decide +kernel
theorem dX11_count_3 : decode cX11_count 3 = .ok (.istore_n 3, 1) := by decide +kernel
theorem dX11_count_4 : decode cX11_count 4 = .ok (.iconst 0, 1) := by decide +kernel
theorem dX11_count_5 : decode cX11_count 5 = .ok (.istore 4, 2) := by decide +kernel
theorem dX11_count_7 : decode cX11_count 7 = .ok (.iconst 0, 1) := by decide +kernel
theorem dX11_count_8 : decode cX11_count 8 = .ok (.istore 5, 2) := by decide +kernel
theorem dX11_count_10 : decode cX11_count 10 = .ok (.iconst 0, 1) := by decide +kernel
theorem dX11_count_11 : decode cX11_count 11 = .ok (.istore 6, 2) := by decide +kernel
theorem dX11_count_13 : decode cX11_count 13 = .ok (.iload 6, 2) := by decide +kernel
theorem dX11_count_15 : decode cX11_count 15 = .ok (.aload_n 0, 1) := by decide +kernel
theorem dX11_count_16 : decode cX11_count 16 = .ok (.getfield 130, 3) := by decide +kernel
theorem dX11_count_19 : decode cX11_count 19 = .ok (.if_icmp .ge 92, 3) := by decide +kernel
theorem dX11_count_22 : decode cX11_count 22 = .ok (.iload_n 2, 1) := by decide +kernel
theorem dX11_count_23 : decode cX11_count 23 = .ok (.aload_n 0, 1) := by decide +kernel
theorem dX11_count_24 : decode cX11_count 24 = .ok (.getfield 22, 3) := by decide +kernel
theorem dX11_count_27 : decode cX11_count 27 = .ok (.iload 6, 2) := by decide +kernel
theorem dX11_count_29 : decode cX11_count 29 = .ok (.iaload, 1) := by decide +kernel
theorem dX11_count_30 : decode cX11_count 30 = .ok (.iconst 1, 1) := by decide +kernel
theorem dX11_count_31 : decode cX11_count 31 = .ok (.if_icmp .ne 7, 3) := by decide +kernel
theorem dX11_count_34 : decode cX11_count 34 = .ok (.iconst 1, 1) := by decide +kernel
theorem dX11_count_35 : decode cX11_count 35 = .ok (.goto 4, 3) := by decide +kernel
theorem dX11_count_38 : decode cX11_count 38 = .ok (.iconst 0, 1) := by decide +kernel
theorem dX11_count_39 : decode cX11_count 39 = .ok (.iadd, 1) := by decide +kernel
theorem dX11_count_40 : decode cX11_count 40 = .ok (.istore_n 2, 1) := by decide +kernel
theorem dX11_count_41 : decode cX11_count 41 = .ok (.iload_n 3, 1) := by decide +kernel
theorem dX11_count_42 : decode cX11_count 42 = .ok (.aload_n 0, 1) := by decide +kernel
theorem dX11_count_43 : decode cX11_count 43 = .ok (.getfield 22, 3) := by decide +kernel
theorem dX11_count_46 : decode cX11_count 46 = .ok (.iload 6, 2) := by decide +kernel
theorem dX11_count_48 : decode cX11_count 48 = .ok (.iaload, 1) := by decide +kernel
theorem dX11_count_49 : decode cX11_count 49 = .ok (.iconst 2, 1) := by decide +kernel
theorem dX11_count_50 : decode cX11_count 50 = .ok (.if_icmp .ne 7, 3) := by decide +kernel
theorem dX11_count_53 : decode cX11_count 53 = .ok (.iconst 1, 1) := by decide +kernel
theorem dX11_count_54 : decode cX11_count 54 = .ok (.goto 4, 3) := by decide +kernel
theorem dX11_count_57 : decode cX11_count 57 = .ok (.iconst 0, 1) := by decide +kernel
theorem dX11_count_58 : decode cX11_count 58 = .ok (.iadd, 1) := by decide +kernel
theorem dX11_count_59 : decode cX11_count 59 = .ok (.istore_n 3, 1) := by decide +kernel
theorem dX11_count_60 : decode cX11_count 60 = .ok (.iload 4, 2) := by decide +kernel
theorem dX11_count_62 : decode cX11_count 62 = .ok (.aload_n 0, 1) := by decide +kernel
theorem dX11_count_63 : decode cX11_count 63 = .ok (.getfield 25, 3) := by decide +kernel
theorem dX11_count_66 : decode cX11_count 66 = .ok (.iload 6, 2) := by decide +kernel
theorem dX11_count_68 : decode cX11_count 68 = .ok (.baload, 1) := by decide +kernel
theorem dX11_count_69 : decode cX11_count 69 = .ok (.ifCond .eq 7, 3) := by decide +kernel
theorem dX11_count_72 : decode cX11_count 72 = .ok (.iconst 1, 1) := by decide +kernel
theorem dX11_count_73 : decode cX11_count 73 = .ok (.goto 4, 3) := by decide +kernel
theorem dX11_count_76 : decode cX11_count 76 = .ok (.iconst 0, 1) := by decide +kernel
theorem dX11_count_77 : decode cX11_count 77 = .ok (.iadd, 1) := by decide +kernel
theorem dX11_count_78 : decode cX11_count 78 = .ok (.istore 4, 2) := by decide +kernel
theorem dX11_count_80 : decode cX11_count 80 = .ok (.iload 5, 2) := by decide +kernel
theorem dX11_count_82 : decode cX11_count 82 = .ok (.aload_n 0, 1) := by decide +kernel
theorem dX11_count_83 : decode cX11_count 83 = .ok (.iload 6, 2) := by decide +kernel
theorem dX11_count_85 : decode cX11_count 85 = .ok (.invokevirtual 197, 3) := by decide +kernel
theorem dX11_count_88 : decode cX11_count 88 = .ok (.ifCond .eq 13, 3) := by decide +kernel
theorem dX11_count_91 : decode cX11_count 91 = .ok (.aload_n 0, 1) := by decide +kernel
theorem dX11_count_92 : decode cX11_count 92 = .ok (.getfield 41, 3) := by decide +kernel
theorem dX11_count_95 : decode cX11_count 95 = .ok (.iload 6, 2) := by decide +kernel
theorem dX11_count_97 : decode cX11_count 97 = .ok (.iaload, 1) := by decide +kernel
theorem dX11_count_98 : decode cX11_count 98 = .ok (.goto 4, 3) := by decide +kernel
theorem dX11_count_101 : decode cX11_count 101 = .ok (.iconst 0, 1) := by decide +kernel
theorem dX11_count_102 : decode cX11_count 102 = .ok (.iadd, 1) := by decide +kernel
theorem dX11_count_103 : decode cX11_count 103 = .ok (.istore 5, 2) := by decide +kernel
theorem dX11_count_105 : decode cX11_count 105 = .ok (.iinc 6 1, 3) := by decide +kernel
theorem dX11_count_108 : decode cX11_count 108 = .ok (.goto (-95), 3) := by decide +kernel
theorem dX11_count_111 : decode cX11_count 111 = .ok (.iload_n 1, 1) := by decide +kernel
theorem dX11_count_112 : decode cX11_count 112 = .ok (.tableswitch 78 0 7 #[48, 53, 55, 57, 60, 63, 68, 73], 48) := by decide +kernel
theorem dX11_count_160 : decode cX11_count 160 = .ok (.aload_n 0, 1) := by decide +kernel
theorem dX11_count_161 : decode cX11_count 161 = .ok (.getfield 130, 3) := by decide +kernel
theorem dX11_count_164 : decode cX11_count 164 = .ok (.ireturn, 1) := by decide +kernel
theorem dX11_count_165 : decode cX11_count 165 = .ok (.iload_n 2, 1) := by decide +kernel
theorem dX11_count_166 : decode cX11_count 166 = .ok (.ireturn, 1) := by decide +kernel
theorem dX11_count_167 : decode cX11_count 167 = .ok (.iload_n 3, 1) := by decide +kernel
theorem dX11_count_168 : decode cX11_count 168 = .ok (.ireturn, 1) := by decide +kernel
theorem dX11_count_169 : decode cX11_count 169 = .ok (.iload 4, 2) := by decide +kernel
theorem dX11_count_171 : decode cX11_count 171 = .ok (.ireturn, 1) := by decide +kernel
theorem dX11_count_172 : decode cX11_count 172 = .ok (.iload 5, 2) := by decide +kernel
theorem dX11_count_174 : decode cX11_count 174 = .ok (.ireturn, 1) := by decide +kernel
theorem dX11_count_175 : decode cX11_count 175 = .ok (.aload_n 0, 1) := by decide +kernel
theorem dX11_count_176 : decode cX11_count 176 = .ok (.getfield 257, 3) := by decide +kernel
theorem dX11_count_179 : decode cX11_count 179 = .ok (.ireturn, 1) := by decide +kernel
theorem dX11_count_180 : decode cX11_count 180 = .ok (.aload_n 0, 1) := by decide +kernel
theorem dX11_count_181 : decode cX11_count 181 = .ok (.getfield 263, 3) := by decide +kernel
theorem dX11_count_184 : decode cX11_count 184 = .ok (.ireturn, 1) := by decide +kernel
theorem dX11_count_185 : decode cX11_count 185 = .ok (.aload_n 0, 1) := by decide +kernel
theorem dX11_count_186 : decode cX11_count 186 = .ok (.getfield 123, 3) := by decide +kernel
theorem dX11_count_189 : decode cX11_count 189 = .ok (.ireturn, 1) := by decide +kernel
theorem dX11_count_190 : decode cX11_count 190 = .ok (.iconst (-1), 1) := by decide +kernel
theorem dX11_count_191 : decode cX11_count 191 = .ok (.ireturn, 1) := by decide +kernel
theorem dX11_status_0 : decode cX11_status 0 = .ok (.aload_n 0, 1) := by decide +kernel
theorem dX11_status_1 : decode cX11_status 1 = .ok (.getfield 119, 3) := by decide +kernel
theorem dX11_status_4 : decode cX11_status 4 = .ok (.ireturn, 1) := by decide +kernel
theorem dJ9_abs_0f7a4_0 : decode cJ9_abs_0f7a4 0 = .ok (.iload_n 0, 1) := by decide +kernel
theorem dJ9_abs_0f7a4_1 : decode cJ9_abs_0f7a4 1 = .ok (.ifCond .ge 8, 3) := by decide +kernel
theorem dJ9_abs_0f7a4_4 : decode cJ9_abs_0f7a4 4 = .ok (.iload_n 0, 1) := by decide +kernel
theorem dJ9_abs_0f7a4_5 : decode cJ9_abs_0f7a4 5 = .ok (.ineg, 1) := by decide +kernel
theorem dJ9_abs_0f7a4_6 : decode cJ9_abs_0f7a4 6 = .ok (.goto 4, 3) := by decide +kernel
theorem dJ9_abs_0f7a4_9 : decode cJ9_abs_0f7a4 9 = .ok (.iload_n 0, 1) := by decide +kernel
theorem dJ9_abs_0f7a4_10 : decode cJ9_abs_0f7a4 10 = .ok (.ireturn, 1) := by decide +kernel
theorem dJ9_max_7cf53_0 : decode cJ9_max_7cf53 0 = .ok (.iload_n 0, 1) := by decide +kernel
theorem dJ9_max_7cf53_1 : decode cJ9_max_7cf53 1 = .ok (.iload_n 1, 1) := by decide +kernel
theorem dJ9_max_7cf53_2 : decode cJ9_max_7cf53 2 = .ok (.if_icmp .lt 7, 3) := by decide +kernel
theorem dJ9_max_7cf53_5 : decode cJ9_max_7cf53 5 = .ok (.iload_n 0, 1) := by decide +kernel
theorem dJ9_max_7cf53_6 : decode cJ9_max_7cf53 6 = .ok (.goto 4, 3) := by decide +kernel
theorem dJ9_max_7cf53_9 : decode cJ9_max_7cf53 9 = .ok (.iload_n 1, 1) := by decide +kernel
theorem dJ9_max_7cf53_10 : decode cJ9_max_7cf53 10 = .ok (.ireturn, 1) := by decide +kernel
theorem dJ9_min_7cf53_0 : decode cJ9_min_7cf53 0 = .ok (.iload_n 0, 1) := by decide +kernel
theorem dJ9_min_7cf53_1 : decode cJ9_min_7cf53 1 = .ok (.iload_n 1, 1) := by decide +kernel
theorem dJ9_min_7cf53_2 : decode cJ9_min_7cf53 2 = .ok (.if_icmp .gt 7, 3) := by decide +kernel
theorem dJ9_min_7cf53_5 : decode cJ9_min_7cf53 5 = .ok (.iload_n 0, 1) := by decide +kernel
theorem dJ9_min_7cf53_6 : decode cJ9_min_7cf53 6 = .ok (.goto 4, 3) := by decide +kernel
theorem dJ9_min_7cf53_9 : decode cJ9_min_7cf53 9 = .ok (.iload_n 1, 1) := by decide +kernel
theorem dJ9_min_7cf53_10 : decode cJ9_min_7cf53 10 = .ok (.ireturn, 1) := by decide +kernel
theorem dJxa1e45_init_da8c8_0 : decode cJxa1e45_init_da8c8 0 = .ok (.aload_n 0, 1) := by decide +kernel
theorem dJxa1e45_init_da8c8_1 : decode cJxa1e45_init_da8c8 1 = .ok (.invokespecial 1, 3) := by decide +kernel
theorem dJxa1e45_init_da8c8_4 : decode cJxa1e45_init_da8c8 4 = .ok (.return_, 1) := by decide +kernel
theorem dJxc12de_init_da8c8_0 : decode cJxc12de_init_da8c8 0 = .ok (.aload_n 0, 1) := by decide +kernel
theorem dJxc12de_init_da8c8_1 : decode cJxc12de_init_da8c8 1 = .ok (.invokespecial 1, 3) := by decide +kernel
theorem dJxc12de_init_da8c8_4 : decode cJxc12de_init_da8c8 4 = .ok (.aload_n 0, 1) := by decide +kernel
theorem dJxc12de_init_da8c8_5 : decode cJxc12de_init_da8c8 5 = .ok (.iconst 0, 1) := by decide +kernel
theorem dJxc12de_init_da8c8_6 : decode cJxc12de_init_da8c8 6 = .ok (.putfield 7, 3) := by decide +kernel
theorem dJxc12de_init_da8c8_9 : decode cJxc12de_init_da8c8 9 = .ok (.return_, 1) := by decide +kernel
theorem dJx4a65c_init_da8c8_0 : decode cJx4a65c_init_da8c8 0 = .ok (.aload_n 0, 1) := by decide +kernel
theorem dJx4a65c_init_da8c8_1 : decode cJx4a65c_init_da8c8 1 = .ok (.invokespecial 1, 3) := by decide +kernel
theorem dJx4a65c_init_da8c8_4 : decode cJx4a65c_init_da8c8 4 = .ok (.aload_n 0, 1) := by decide +kernel
theorem dJx4a65c_init_da8c8_5 : decode cJx4a65c_init_da8c8 5 = .ok (.getstatic 39, 3) := by decide +kernel
theorem dJx4a65c_init_da8c8_8 : decode cJx4a65c_init_da8c8 8 = .ok (.putfield 9, 3) := by decide +kernel
theorem dJx4a65c_init_da8c8_11 : decode cJx4a65c_init_da8c8 11 = .ok (.return_, 1) := by decide +kernel
theorem dJx4a65c_grow_92f84_0 : decode cJx4a65c_grow_92f84 0 = .ok (.aload_n 0, 1) := by decide +kernel
theorem dJx4a65c_grow_92f84_1 : decode cJx4a65c_grow_92f84 1 = .ok (.getfield 9, 3) := by decide +kernel
theorem dJx4a65c_grow_92f84_4 : decode cJx4a65c_grow_92f84 4 = .ok (.arraylength, 1) := by decide +kernel
theorem dJx4a65c_grow_92f84_5 : decode cJx4a65c_grow_92f84 5 = .ok (.istore_n 2, 1) := by decide +kernel
theorem dJx4a65c_grow_92f84_6 : decode cJx4a65c_grow_92f84 6 = .ok (.iload_n 2, 1) := by decide +kernel
theorem dJx4a65c_grow_92f84_7 : decode cJx4a65c_grow_92f84 7 = .ok (.ifCond .gt 13, 3) := by decide +kernel
theorem dJx4a65c_grow_92f84_10 : decode cJx4a65c_grow_92f84 10 = .ok (.aload_n 0, 1) := by decide +kernel
theorem dJx4a65c_grow_92f84_11 : decode cJx4a65c_grow_92f84 11 = .ok (.getfield 9, 3) := by decide +kernel
theorem dJx4a65c_grow_92f84_14 : decode cJx4a65c_grow_92f84 14 = .ok (.getstatic 39, 3) := by decide +kernel
theorem dJx4a65c_grow_92f84_17 : decode cJx4a65c_grow_92f84 17 = .ok (.if_acmp .eq 28, 3) := by decide +kernel
theorem dJx4a65c_grow_92f84_20 : decode cJx4a65c_grow_92f84 20 = .ok (.iload_n 2, 1) := by decide +kernel
theorem dJx4a65c_grow_92f84_21 : decode cJx4a65c_grow_92f84 21 = .ok (.iload_n 1, 1) := by decide +kernel
theorem dJx4a65c_grow_92f84_22 : decode cJx4a65c_grow_92f84 22 = .ok (.iload_n 2, 1) := by decide +kernel
theorem dJx4a65c_grow_92f84_23 : decode cJx4a65c_grow_92f84 23 = .ok (.isub, 1) := by decide +kernel
theorem dJx4a65c_grow_92f84_24 : decode cJx4a65c_grow_92f84 24 = .ok (.iload_n 2, 1) := by decide +kernel
theorem dJx4a65c_grow_92f84_25 : decode cJx4a65c_grow_92f84 25 = .ok (.iconst 1, 1) := by decide +kernel
theorem dJx4a65c_grow_92f84_26 : decode cJx4a65c_grow_92f84 26 = .ok (.ishr, 1) := by decide +kernel
theorem dJx4a65c_grow_92f84_27 : decode cJx4a65c_grow_92f84 27 = .ok (.invokestatic 73, 3) := by decide +kernel
theorem dJx4a65c_grow_92f84_30 : decode cJx4a65c_grow_92f84 30 = .ok (.istore_n 3, 1) := by decide +kernel
theorem dJx4a65c_grow_92f84_31 : decode cJx4a65c_grow_92f84 31 = .ok (.aload_n 0, 1) := by decide +kernel
theorem dJx4a65c_grow_92f84_32 : decode cJx4a65c_grow_92f84 32 = .ok (.aload_n 0, 1) := by decide +kernel
theorem dJx4a65c_grow_92f84_33 : decode cJx4a65c_grow_92f84 33 = .ok (.getfield 9, 3) := by decide +kernel
theorem dJx4a65c_grow_92f84_36 : decode cJx4a65c_grow_92f84 36 = .ok (.iload_n 3, 1) := by decide +kernel
theorem dJx4a65c_grow_92f84_37 : decode cJx4a65c_grow_92f84 37 = .ok (.invokestatic 66, 3) := by decide +kernel
theorem dJx4a65c_grow_92f84_40 : decode cJx4a65c_grow_92f84 40 = .ok (.dup_x1, 1) := by decide +kernel
theorem dJx4a65c_grow_92f84_41 : decode cJx4a65c_grow_92f84 41 = .ok (.putfield 9, 3) := by decide +kernel
theorem dJx4a65c_grow_92f84_44 : decode cJx4a65c_grow_92f84 44 = .ok (.areturn, 1) := by decide +kernel
theorem dJx4a65c_grow_92f84_45 : decode cJx4a65c_grow_92f84 45 = .ok (.aload_n 0, 1) := by decide +kernel
theorem dJx4a65c_grow_92f84_46 : decode cJx4a65c_grow_92f84 46 = .ok (.bipush 10, 2) := by decide +kernel
theorem dJx4a65c_grow_92f84_48 : decode cJx4a65c_grow_92f84 48 = .ok (.iload_n 1, 1) := by decide +kernel
theorem dJx4a65c_grow_92f84_49 : decode cJx4a65c_grow_92f84 49 = .ok (.invokestatic 79, 3) := by decide +kernel
theorem dJx4a65c_grow_92f84_52 : decode cJx4a65c_grow_92f84 52 = .ok (.anewarray 7, 3) := by decide +kernel
theorem dJx4a65c_grow_92f84_55 : decode cJx4a65c_grow_92f84 55 = .ok (.dup_x1, 1) := by decide +kernel
theorem dJx4a65c_grow_92f84_56 : decode cJx4a65c_grow_92f84 56 = .ok (.putfield 9, 3) := by decide +kernel
theorem dJx4a65c_grow_92f84_59 : decode cJx4a65c_grow_92f84 59 = .ok (.areturn, 1) := by decide +kernel
theorem dJx4a65c_grow_d5877_0 : decode cJx4a65c_grow_d5877 0 = .ok (.aload_n 0, 1) := by decide +kernel
theorem dJx4a65c_grow_d5877_1 : decode cJx4a65c_grow_d5877 1 = .ok (.aload_n 0, 1) := by decide +kernel
theorem dJx4a65c_grow_d5877_2 : decode cJx4a65c_grow_d5877 2 = .ok (.getfield 48, 3) := by decide +kernel
theorem dJx4a65c_grow_d5877_5 : decode cJx4a65c_grow_d5877 5 = .ok (.iconst 1, 1) := by decide +kernel
theorem dJx4a65c_grow_d5877_6 : decode cJx4a65c_grow_d5877 6 = .ok (.iadd, 1) := by decide +kernel
theorem dJx4a65c_grow_d5877_7 : decode cJx4a65c_grow_d5877 7 = .ok (.invokevirtual 69, 3) := by decide +kernel
theorem dJx4a65c_grow_d5877_10 : decode cJx4a65c_grow_d5877 10 = .ok (.areturn, 1) := by decide +kernel
theorem dJx4a65c_size_8abf5_0 : decode cJx4a65c_size_8abf5 0 = .ok (.aload_n 0, 1) := by decide +kernel
theorem dJx4a65c_size_8abf5_1 : decode cJx4a65c_size_8abf5 1 = .ok (.getfield 48, 3) := by decide +kernel
theorem dJx4a65c_size_8abf5_4 : decode cJx4a65c_size_8abf5 4 = .ok (.ireturn, 1) := by decide +kernel
theorem dJx4a65c_elementData_915e3_0 : decode cJx4a65c_elementData_915e3 0 = .ok (.aload_n 0, 1) := by decide +kernel
theorem dJx4a65c_elementData_915e3_1 : decode cJx4a65c_elementData_915e3 1 = .ok (.getfield 9, 3) := by decide +kernel
theorem dJx4a65c_elementData_915e3_4 : decode cJx4a65c_elementData_915e3 4 = .ok (.iload_n 1, 1) := by decide +kernel
theorem dJx4a65c_elementData_915e3_5 : decode cJx4a65c_elementData_915e3 5 = .ok (.aaload, 1) := by decide +kernel
theorem dJx4a65c_elementData_915e3_6 : decode cJx4a65c_elementData_915e3 6 = .ok (.areturn, 1) := by decide +kernel
theorem dJx4a65c_get_915e3_0 : decode cJx4a65c_get_915e3 0 = .ok (.iload_n 1, 1) := by decide +kernel
theorem dJx4a65c_get_915e3_1 : decode cJx4a65c_get_915e3 1 = .ok (.aload_n 0, 1) := by decide +kernel
theorem dJx4a65c_get_915e3_2 : decode cJx4a65c_get_915e3 2 = .ok (.getfield 48, 3) := by decide +kernel
theorem dJx4a65c_get_915e3_5 : decode cJx4a65c_get_915e3 5 = .ok (.invokestatic 118, 3) := by decide +kernel
theorem dJx4a65c_get_915e3_8 : decode cJx4a65c_get_915e3 8 = .ok (.pop, 1) := by decide +kernel
theorem dJx4a65c_get_915e3_9 : decode cJx4a65c_get_915e3 9 = .ok (.aload_n 0, 1) := by decide +kernel
theorem dJx4a65c_get_915e3_10 : decode cJx4a65c_get_915e3 10 = .ok (.iload_n 1, 1) := by decide +kernel
theorem dJx4a65c_get_915e3_11 : decode cJx4a65c_get_915e3 11 = .ok (.invokevirtual 123, 3) := by decide +kernel
theorem dJx4a65c_get_915e3_14 : decode cJx4a65c_get_915e3 14 = .ok (.areturn, 1) := by decide +kernel
theorem dJx4a65c_add_72be8_0 : decode cJx4a65c_add_72be8 0 = .ok (.iload_n 3, 1) := by decide +kernel
theorem dJx4a65c_add_72be8_1 : decode cJx4a65c_add_72be8 1 = .ok (.aload_n 2, 1) := by decide +kernel
theorem dJx4a65c_add_72be8_2 : decode cJx4a65c_add_72be8 2 = .ok (.arraylength, 1) := by decide +kernel
theorem dJx4a65c_add_72be8_3 : decode cJx4a65c_add_72be8 3 = .ok (.if_icmp .ne 8, 3) := by decide +kernel
theorem dJx4a65c_add_72be8_6 : decode cJx4a65c_add_72be8 6 = .ok (.aload_n 0, 1) := by decide +kernel
theorem dJx4a65c_add_72be8_7 : decode cJx4a65c_add_72be8 7 = .ok (.invokevirtual 129, 3) := by decide +kernel
theorem dJx4a65c_add_72be8_10 : decode cJx4a65c_add_72be8 10 = .ok (.astore_n 2, 1) := by decide +kernel
theorem dJx4a65c_add_72be8_11 : decode cJx4a65c_add_72be8 11 = .ok (.aload_n 2, 1) := by decide +kernel
theorem dJx4a65c_add_72be8_12 : decode cJx4a65c_add_72be8 12 = .ok (.iload_n 3, 1) := by decide +kernel
theorem dJx4a65c_add_72be8_13 : decode cJx4a65c_add_72be8 13 = .ok (.aload_n 1, 1) := by decide +kernel
theorem dJx4a65c_add_72be8_14 : decode cJx4a65c_add_72be8 14 = .ok (.aastore, 1) := by decide +kernel
theorem dJx4a65c_add_72be8_15 : decode cJx4a65c_add_72be8 15 = .ok (.aload_n 0, 1) := by decide +kernel
theorem dJx4a65c_add_72be8_16 : decode cJx4a65c_add_72be8 16 = .ok (.iload_n 3, 1) := by decide +kernel
theorem dJx4a65c_add_72be8_17 : decode cJx4a65c_add_72be8 17 = .ok (.iconst 1, 1) := by decide +kernel
theorem dJx4a65c_add_72be8_18 : decode cJx4a65c_add_72be8 18 = .ok (.iadd, 1) := by decide +kernel
theorem dJx4a65c_add_72be8_19 : decode cJx4a65c_add_72be8 19 = .ok (.putfield 48, 3) := by decide +kernel
theorem dJx4a65c_add_72be8_22 : decode cJx4a65c_add_72be8 22 = .ok (.return_, 1) := by decide +kernel
theorem dJx4a65c_add_9ea2d_0 : decode cJx4a65c_add_9ea2d 0 = .ok (.aload_n 0, 1) := by decide +kernel
theorem dJx4a65c_add_9ea2d_1 : decode cJx4a65c_add_9ea2d 1 = .ok (.dup, 1) := by decide +kernel
theorem dJx4a65c_add_9ea2d_2 : decode cJx4a65c_add_9ea2d 2 = .ok (.getfield 63, 3) := by decide +kernel
theorem dJx4a65c_add_9ea2d_5 : decode cJx4a65c_add_9ea2d 5 = .ok (.iconst 1, 1) := by decide +kernel
theorem dJx4a65c_add_9ea2d_6 : decode cJx4a65c_add_9ea2d 6 = .ok (.iadd, 1) := by decide +kernel
theorem dJx4a65c_add_9ea2d_7 : decode cJx4a65c_add_9ea2d 7 = .ok (.putfield 63, 3) := by decide +kernel
theorem dJx4a65c_add_9ea2d_10 : decode cJx4a65c_add_9ea2d 10 = .ok (.aload_n 0, 1) := by decide +kernel
theorem dJx4a65c_add_9ea2d_11 : decode cJx4a65c_add_9ea2d 11 = .ok (.aload_n 1, 1) := by decide +kernel
theorem dJx4a65c_add_9ea2d_12 : decode cJx4a65c_add_9ea2d 12 = .ok (.aload_n 0, 1) := by decide +kernel
theorem dJx4a65c_add_9ea2d_13 : decode cJx4a65c_add_9ea2d 13 = .ok (.getfield 9, 3) := by decide +kernel
theorem dJx4a65c_add_9ea2d_16 : decode cJx4a65c_add_9ea2d 16 = .ok (.aload_n 0, 1) := by decide +kernel
theorem dJx4a65c_add_9ea2d_17 : decode cJx4a65c_add_9ea2d 17 = .ok (.getfield 48, 3) := by decide +kernel
theorem dJx4a65c_add_9ea2d_20 : decode cJx4a65c_add_9ea2d 20 = .ok (.invokevirtual 131, 3) := by decide +kernel
theorem dJx4a65c_add_9ea2d_23 : decode cJx4a65c_add_9ea2d 23 = .ok (.iconst 1, 1) := by decide +kernel
theorem dJx4a65c_add_9ea2d_24 : decode cJx4a65c_add_9ea2d 24 = .ok (.ireturn, 1) := by decide +kernel
theorem dJx4a65c_remove_915e3_0 : decode cJx4a65c_remove_915e3 0 = .ok (.iload_n 1, 1) := by decide +kernel
theorem dJx4a65c_remove_915e3_1 : decode cJx4a65c_remove_915e3 1 = .ok (.aload_n 0, 1) := by decide +kernel
theorem dJx4a65c_remove_915e3_2 : decode cJx4a65c_remove_915e3 2 = .ok (.getfield 48, 3) := by decide +kernel
theorem dJx4a65c_remove_915e3_5 : decode cJx4a65c_remove_915e3 5 = .ok (.invokestatic 118, 3) := by decide +kernel
theorem dJx4a65c_remove_915e3_8 : decode cJx4a65c_remove_915e3 8 = .ok (.pop, 1) := by decide +kernel
theorem dJx4a65c_remove_915e3_9 : decode cJx4a65c_remove_915e3 9 = .ok (.aload_n 0, 1) := by decide +kernel
theorem dJx4a65c_remove_915e3_10 : decode cJx4a65c_remove_915e3 10 = .ok (.getfield 9, 3) := by decide +kernel
theorem dJx4a65c_remove_915e3_13 : decode cJx4a65c_remove_915e3 13 = .ok (.astore_n 2, 1) := by decide +kernel
theorem dJx4a65c_remove_915e3_14 : decode cJx4a65c_remove_915e3 14 = .ok (.aload_n 2, 1) := by decide +kernel
theorem dJx4a65c_remove_915e3_15 : decode cJx4a65c_remove_915e3 15 = .ok (.iload_n 1, 1) := by decide +kernel
theorem dJx4a65c_remove_915e3_16 : decode cJx4a65c_remove_915e3 16 = .ok (.aaload, 1) := by decide +kernel
theorem dJx4a65c_remove_915e3_17 : decode cJx4a65c_remove_915e3 17 = .ok (.astore_n 3, 1) := by decide +kernel
theorem dJx4a65c_remove_915e3_18 : decode cJx4a65c_remove_915e3 18 = .ok (.aload_n 0, 1) := by decide +kernel
theorem dJx4a65c_remove_915e3_19 : decode cJx4a65c_remove_915e3 19 = .ok (.aload_n 2, 1) := by decide +kernel
theorem dJx4a65c_remove_915e3_20 : decode cJx4a65c_remove_915e3 20 = .ok (.iload_n 1, 1) := by decide +kernel
theorem dJx4a65c_remove_915e3_21 : decode cJx4a65c_remove_915e3 21 = .ok (.invokevirtual 144, 3) := by decide +kernel
theorem dJx4a65c_remove_915e3_24 : decode cJx4a65c_remove_915e3 24 = .ok (.aload_n 3, 1) := by decide +kernel
theorem dJx4a65c_remove_915e3_25 : decode cJx4a65c_remove_915e3 25 = .ok (.areturn, 1) := by decide +kernel
theorem dJx4a65c_fastRemove_b59b0_0 : decode cJx4a65c_fastRemove_b59b0 0 = .ok (.aload_n 0, 1) := by decide +kernel
theorem dJx4a65c_fastRemove_b59b0_1 : decode cJx4a65c_fastRemove_b59b0 1 = .ok (.dup, 1) := by decide +kernel
theorem dJx4a65c_fastRemove_b59b0_2 : decode cJx4a65c_fastRemove_b59b0 2 = .ok (.getfield 63, 3) := by decide +kernel
theorem dJx4a65c_fastRemove_b59b0_5 : decode cJx4a65c_fastRemove_b59b0 5 = .ok (.iconst 1, 1) := by decide +kernel
theorem dJx4a65c_fastRemove_b59b0_6 : decode cJx4a65c_fastRemove_b59b0 6 = .ok (.iadd, 1) := by decide +kernel
theorem dJx4a65c_fastRemove_b59b0_7 : decode cJx4a65c_fastRemove_b59b0 7 = .ok (.putfield 63, 3) := by decide +kernel
theorem dJx4a65c_fastRemove_b59b0_10 : decode cJx4a65c_fastRemove_b59b0 10 = .ok (.aload_n 0, 1) := by decide +kernel
theorem dJx4a65c_fastRemove_b59b0_11 : decode cJx4a65c_fastRemove_b59b0 11 = .ok (.getfield 48, 3) := by decide +kernel
theorem dJx4a65c_fastRemove_b59b0_14 : decode cJx4a65c_fastRemove_b59b0 14 = .ok (.iconst 1, 1) := by decide +kernel
theorem dJx4a65c_fastRemove_b59b0_15 : decode cJx4a65c_fastRemove_b59b0 15 = .ok (.isub, 1) := by decide +kernel
theorem dJx4a65c_fastRemove_b59b0_16 : decode cJx4a65c_fastRemove_b59b0 16 = .ok (.dup, 1) := by decide +kernel
theorem dJx4a65c_fastRemove_b59b0_17 : decode cJx4a65c_fastRemove_b59b0 17 = .ok (.istore_n 3, 1) := by decide +kernel
theorem dJx4a65c_fastRemove_b59b0_18 : decode cJx4a65c_fastRemove_b59b0 18 = .ok (.iload_n 2, 1) := by decide +kernel
theorem dJx4a65c_fastRemove_b59b0_19 : decode cJx4a65c_fastRemove_b59b0 19 = .ok (.if_icmp .le 15, 3) := by decide +kernel
theorem dJx4a65c_fastRemove_b59b0_22 : decode cJx4a65c_fastRemove_b59b0 22 = .ok (.aload_n 1, 1) := by decide +kernel
theorem dJx4a65c_fastRemove_b59b0_23 : decode cJx4a65c_fastRemove_b59b0 23 = .ok (.iload_n 2, 1) := by decide +kernel
theorem dJx4a65c_fastRemove_b59b0_24 : decode cJx4a65c_fastRemove_b59b0 24 = .ok (.iconst 1, 1) := by decide +kernel
theorem dJx4a65c_fastRemove_b59b0_25 : decode cJx4a65c_fastRemove_b59b0 25 = .ok (.iadd, 1) := by decide +kernel
theorem dJx4a65c_fastRemove_b59b0_26 : decode cJx4a65c_fastRemove_b59b0 26 = .ok (.aload_n 1, 1) := by decide +kernel
theorem dJx4a65c_fastRemove_b59b0_27 : decode cJx4a65c_fastRemove_b59b0 27 = .ok (.iload_n 2, 1) := by decide +kernel
theorem dJx4a65c_fastRemove_b59b0_28 : decode cJx4a65c_fastRemove_b59b0 28 = .ok (.iload_n 3, 1) := by decide +kernel
theorem dJx4a65c_fastRemove_b59b0_29 : decode cJx4a65c_fastRemove_b59b0 29 = .ok (.iload_n 2, 1) := by decide +kernel
theorem dJx4a65c_fastRemove_b59b0_30 : decode cJx4a65c_fastRemove_b59b0 30 = .ok (.isub, 1) := by decide +kernel
theorem dJx4a65c_fastRemove_b59b0_31 : decode cJx4a65c_fastRemove_b59b0 31 = .ok (.invokestatic 112, 3) := by decide +kernel
theorem dJx4a65c_fastRemove_b59b0_34 : decode cJx4a65c_fastRemove_b59b0 34 = .ok (.aload_n 1, 1) := by decide +kernel
theorem dJx4a65c_fastRemove_b59b0_35 : decode cJx4a65c_fastRemove_b59b0 35 = .ok (.aload_n 0, 1) := by decide +kernel
theorem dJx4a65c_fastRemove_b59b0_36 : decode cJx4a65c_fastRemove_b59b0 36 = .ok (.iload_n 3, 1) := by decide +kernel
theorem dJx4a65c_fastRemove_b59b0_37 : decode cJx4a65c_fastRemove_b59b0 37 = .ok (.dup_x1, 1) := by decide +kernel
theorem dJx4a65c_fastRemove_b59b0_38 : decode cJx4a65c_fastRemove_b59b0 38 = .ok (.putfield 48, 3) := by decide +kernel
theorem dJx4a65c_fastRemove_b59b0_41 : decode cJx4a65c_fastRemove_b59b0 41 = .ok (.aconst_null, 1) := by decide +kernel
theorem dJx4a65c_fastRemove_b59b0_42 : decode cJx4a65c_fastRemove_b59b0 42 = .ok (.aastore, 1) := by decide +kernel
theorem dJx4a65c_fastRemove_b59b0_43 : decode cJx4a65c_fastRemove_b59b0 43 = .ok (.return_, 1) := by decide +kernel
theorem dJ7_copyOf_1904c_0 : decode cJ7_copyOf_1904c 0 = .ok (.aload_n 0, 1) := by decide +kernel
theorem dJ7_copyOf_1904c_1 : decode cJ7_copyOf_1904c 1 = .ok (.iload_n 1, 1) := by decide +kernel
theorem dJ7_copyOf_1904c_2 : decode cJ7_copyOf_1904c 2 = .ok (.aload_n 0, 1) := by decide +kernel
theorem dJ7_copyOf_1904c_3 : decode cJ7_copyOf_1904c 3 = .ok (.invokevirtual 86, 3) := by decide +kernel
theorem dJ7_copyOf_1904c_6 : decode cJ7_copyOf_1904c 6 = .ok (.invokestatic 300, 3) := by decide +kernel
theorem dJ7_copyOf_1904c_9 : decode cJ7_copyOf_1904c 9 = .ok (.areturn, 1) := by decide +kernel
theorem dJ7_copyOf_6403c_0 : decode cJ7_copyOf_6403c 0 = .ok (.aload_n 2, 1) := by decide +kernel
theorem dJ7_copyOf_6403c_1 : decode cJ7_copyOf_6403c 1 = .ok (.ldc 110, 2) := by decide +kernel
theorem dJ7_copyOf_6403c_3 : decode cJ7_copyOf_6403c 3 = .ok (.if_acmp .ne 10, 3) := by decide +kernel
theorem dJ7_copyOf_6403c_6 : decode cJ7_copyOf_6403c 6 = .ok (.iload_n 1, 1) := by decide +kernel
theorem dJ7_copyOf_6403c_7 : decode cJ7_copyOf_6403c 7 = .ok (.anewarray 2, 3) := by decide +kernel
theorem dJ7_copyOf_6403c_10 : decode cJ7_copyOf_6403c 10 = .ok (.goto 14, 3) := by decide +kernel
theorem dJ7_copyOf_6403c_13 : decode cJ7_copyOf_6403c 13 = .ok (.aload_n 2, 1) := by decide +kernel
theorem dJ7_copyOf_6403c_14 : decode cJ7_copyOf_6403c 14 = .ok (.invokevirtual 90, 3) := by decide +kernel
theorem dJ7_copyOf_6403c_17 : decode cJ7_copyOf_6403c 17 = .ok (.iload_n 1, 1) := by decide +kernel
theorem dJ7_copyOf_6403c_18 : decode cJ7_copyOf_6403c 18 = .ok (.invokestatic 95, 3) := by decide +kernel
theorem dJ7_copyOf_6403c_21 : decode cJ7_copyOf_6403c 21 = .ok (.checkcast 110, 3) := by decide +kernel
theorem dJ7_copyOf_6403c_24 : decode cJ7_copyOf_6403c 24 = .ok (.astore_n 3, 1) := by decide +kernel
theorem dJ7_copyOf_6403c_25 : decode cJ7_copyOf_6403c 25 = .ok (.aload_n 0, 1) := by decide +kernel
theorem dJ7_copyOf_6403c_26 : decode cJ7_copyOf_6403c 26 = .ok (.iconst 0, 1) := by decide +kernel
theorem dJ7_copyOf_6403c_27 : decode cJ7_copyOf_6403c 27 = .ok (.aload_n 3, 1) := by decide +kernel
theorem dJ7_copyOf_6403c_28 : decode cJ7_copyOf_6403c 28 = .ok (.iconst 0, 1) := by decide +kernel
theorem dJ7_copyOf_6403c_29 : decode cJ7_copyOf_6403c 29 = .ok (.aload_n 0, 1) := by decide +kernel
theorem dJ7_copyOf_6403c_30 : decode cJ7_copyOf_6403c 30 = .ok (.arraylength, 1) := by decide +kernel
theorem dJ7_copyOf_6403c_31 : decode cJ7_copyOf_6403c 31 = .ok (.iload_n 1, 1) := by decide +kernel
theorem dJ7_copyOf_6403c_32 : decode cJ7_copyOf_6403c 32 = .ok (.invokestatic 304, 3) := by decide +kernel
theorem dJ7_copyOf_6403c_35 : decode cJ7_copyOf_6403c 35 = .ok (.invokestatic 150, 3) := by decide +kernel
theorem dJ7_copyOf_6403c_38 : decode cJ7_copyOf_6403c 38 = .ok (.aload_n 3, 1) := by decide +kernel
theorem dJ7_copyOf_6403c_39 : decode cJ7_copyOf_6403c 39 = .ok (.areturn, 1) := by decide +kernel
theorem dJ15_checkIndex_7cf53_0 : decode cJ15_checkIndex_7cf53 0 = .ok (.iload_n 0, 1) := by decide +kernel
theorem dJ15_checkIndex_7cf53_1 : decode cJ15_checkIndex_7cf53 1 = .ok (.iload_n 1, 1) := by decide +kernel
theorem dJ15_checkIndex_7cf53_2 : decode cJ15_checkIndex_7cf53 2 = .ok (.aconst_null, 1) := by decide +kernel
theorem dJ15_checkIndex_7cf53_3 : decode cJ15_checkIndex_7cf53 3 = .ok (.invokestatic 105, 3) := by decide +kernel
theorem dJ15_checkIndex_7cf53_6 : decode cJ15_checkIndex_7cf53 6 = .ok (.ireturn, 1) := by decide +kernel
theorem dJ8_newLength_cabcc_0 : decode cJ8_newLength_cabcc 0 = .ok (.iload_n 0, 1) := by decide +kernel
theorem dJ8_newLength_cabcc_1 : decode cJ8_newLength_cabcc 1 = .ok (.iload_n 1, 1) := by decide +kernel
theorem dJ8_newLength_cabcc_2 : decode cJ8_newLength_cabcc 2 = .ok (.iload_n 2, 1) := by decide +kernel
theorem dJ8_newLength_cabcc_3 : decode cJ8_newLength_cabcc 3 = .ok (.invokestatic 194, 3) := by decide +kernel
theorem dJ8_newLength_cabcc_6 : decode cJ8_newLength_cabcc 6 = .ok (.iadd, 1) := by decide +kernel
theorem dJ8_newLength_cabcc_7 : decode cJ8_newLength_cabcc 7 = .ok (.istore_n 3, 1) := by decide +kernel
theorem dJ8_newLength_cabcc_8 : decode cJ8_newLength_cabcc 8 = .ok (.iconst 0, 1) := by decide +kernel
theorem dJ8_newLength_cabcc_9 : decode cJ8_newLength_cabcc 9 = .ok (.iload_n 3, 1) := by decide +kernel
theorem dJ8_newLength_cabcc_10 : decode cJ8_newLength_cabcc 10 = .ok (.if_icmp .ge 11, 3) := by decide +kernel
theorem dJ8_newLength_cabcc_13 : decode cJ8_newLength_cabcc 13 = .ok (.iload_n 3, 1) := by decide +kernel
theorem dJ8_newLength_cabcc_14 : decode cJ8_newLength_cabcc 14 = .ok (.ldc 200, 2) := by decide +kernel
theorem dJ8_newLength_cabcc_16 : decode cJ8_newLength_cabcc 16 = .ok (.if_icmp .gt 5, 3) := by decide +kernel
theorem dJ8_newLength_cabcc_19 : decode cJ8_newLength_cabcc 19 = .ok (.iload_n 3, 1) := by decide +kernel
theorem dJ8_newLength_cabcc_20 : decode cJ8_newLength_cabcc 20 = .ok (.ireturn, 1) := by decide +kernel
theorem dJ8_newLength_cabcc_21 : decode cJ8_newLength_cabcc 21 = .ok (.iload_n 0, 1) := by decide +kernel
theorem dJ8_newLength_cabcc_22 : decode cJ8_newLength_cabcc 22 = .ok (.iload_n 1, 1) := by decide +kernel
theorem dJ8_newLength_cabcc_23 : decode cJ8_newLength_cabcc 23 = .ok (.invokestatic 201, 3) := by decide +kernel
theorem dJ8_newLength_cabcc_26 : decode cJ8_newLength_cabcc 26 = .ok (.ireturn, 1) := by decide +kernel
theorem dJ8_hugeLength_7cf53_0 : decode cJ8_hugeLength_7cf53 0 = .ok (.iload_n 0, 1) := by decide +kernel
theorem dJ8_hugeLength_7cf53_1 : decode cJ8_hugeLength_7cf53 1 = .ok (.iload_n 1, 1) := by decide +kernel
theorem dJ8_hugeLength_7cf53_2 : decode cJ8_hugeLength_7cf53 2 = .ok (.iadd, 1) := by decide +kernel
theorem dJ8_hugeLength_7cf53_3 : decode cJ8_hugeLength_7cf53 3 = .ok (.istore_n 2, 1) := by decide +kernel
theorem dJ8_hugeLength_7cf53_4 : decode cJ8_hugeLength_7cf53 4 = .ok (.iload_n 2, 1) := by decide +kernel
theorem dJ8_hugeLength_7cf53_5 : decode cJ8_hugeLength_7cf53 5 = .ok (.ifCond .ge 44, 3) := by decide +kernel
theorem dJ8_hugeLength_7cf53_8 : decode cJ8_hugeLength_7cf53 8 = .ok (.new 204, 3) := by decide +kernel
theorem dJ8_hugeLength_7cf53_11 : decode cJ8_hugeLength_7cf53 11 = .ok (.dup, 1) := by decide +kernel
theorem dJ8_hugeLength_7cf53_12 : decode cJ8_hugeLength_7cf53 12 = .ok (.new 89, 3) := by decide +kernel
theorem dJ8_hugeLength_7cf53_15 : decode cJ8_hugeLength_7cf53 15 = .ok (.dup, 1) := by decide +kernel
theorem dJ8_hugeLength_7cf53_16 : decode cJ8_hugeLength_7cf53 16 = .ok (.invokespecial 91, 3) := by decide +kernel
theorem dJ8_hugeLength_7cf53_19 : decode cJ8_hugeLength_7cf53 19 = .ok (.ldc 206, 2) := by decide +kernel
theorem dJ8_hugeLength_7cf53_21 : decode cJ8_hugeLength_7cf53 21 = .ok (.invokevirtual 94, 3) := by decide +kernel
theorem dJ8_hugeLength_7cf53_24 : decode cJ8_hugeLength_7cf53 24 = .ok (.iload_n 0, 1) := by decide +kernel
theorem dJ8_hugeLength_7cf53_25 : decode cJ8_hugeLength_7cf53 25 = .ok (.invokevirtual 98, 3) := by decide +kernel
theorem dJ8_hugeLength_7cf53_28 : decode cJ8_hugeLength_7cf53 28 = .ok (.ldc 208, 2) := by decide +kernel
theorem dJ8_hugeLength_7cf53_30 : decode cJ8_hugeLength_7cf53 30 = .ok (.invokevirtual 94, 3) := by decide +kernel
theorem dJ8_hugeLength_7cf53_33 : decode cJ8_hugeLength_7cf53 33 = .ok (.iload_n 1, 1) := by decide +kernel
theorem dJ8_hugeLength_7cf53_34 : decode cJ8_hugeLength_7cf53 34 = .ok (.invokevirtual 98, 3) := by decide +kernel
theorem dJ8_hugeLength_7cf53_37 : decode cJ8_hugeLength_7cf53 37 = .ok (.ldc 210, 2) := by decide +kernel
theorem dJ8_hugeLength_7cf53_39 : decode cJ8_hugeLength_7cf53 39 = .ok (.invokevirtual 94, 3) := by decide +kernel
theorem dJ8_hugeLength_7cf53_42 : decode cJ8_hugeLength_7cf53 42 = .ok (.invokevirtual 101, 3) := by decide +kernel
theorem dJ8_hugeLength_7cf53_45 : decode cJ8_hugeLength_7cf53 45 = .ok (.invokespecial 212, 3) := by decide +kernel
theorem dJ8_hugeLength_7cf53_48 : decode cJ8_hugeLength_7cf53 48 = .ok (.athrow, 1) := by decide +kernel
theorem dJ8_hugeLength_7cf53_49 : decode cJ8_hugeLength_7cf53 49 = .ok (.iload_n 2, 1) := by decide +kernel
theorem dJ8_hugeLength_7cf53_50 : decode cJ8_hugeLength_7cf53 50 = .ok (.ldc 200, 2) := by decide +kernel
theorem dJ8_hugeLength_7cf53_52 : decode cJ8_hugeLength_7cf53 52 = .ok (.if_icmp .gt 6, 3) := by decide +kernel
theorem dJ8_hugeLength_7cf53_55 : decode cJ8_hugeLength_7cf53 55 = .ok (.ldc 200, 2) := by decide +kernel
theorem dJ8_hugeLength_7cf53_57 : decode cJ8_hugeLength_7cf53 57 = .ok (.ireturn, 1) := by decide +kernel
theorem dJ8_hugeLength_7cf53_58 : decode cJ8_hugeLength_7cf53 58 = .ok (.iload_n 2, 1) := by decide +kernel
theorem dJ8_hugeLength_7cf53_59 : decode cJ8_hugeLength_7cf53 59 = .ok (.ireturn, 1) := by decide +kernel
theorem dJ3_checkIndex_8e157_0 : decode cJ3_checkIndex_8e157 0 = .ok (.iload_n 0, 1) := by decide +kernel
theorem dJ3_checkIndex_8e157_1 : decode cJ3_checkIndex_8e157 1 = .ok (.ifCond .lt 8, 3) := by decide +kernel
theorem dJ3_checkIndex_8e157_4 : decode cJ3_checkIndex_8e157 4 = .ok (.iload_n 0, 1) := by decide +kernel
theorem dJ3_checkIndex_8e157_5 : decode cJ3_checkIndex_8e157 5 = .ok (.iload_n 1, 1) := by decide +kernel
theorem dJ3_checkIndex_8e157_6 : decode cJ3_checkIndex_8e157 6 = .ok (.if_icmp .lt 10, 3) := by decide +kernel
theorem dJ3_checkIndex_8e157_9 : decode cJ3_checkIndex_8e157 9 = .ok (.aload_n 2, 1) := by decide +kernel
theorem dJ3_checkIndex_8e157_10 : decode cJ3_checkIndex_8e157 10 = .ok (.iload_n 0, 1) := by decide +kernel
theorem dJ3_checkIndex_8e157_11 : decode cJ3_checkIndex_8e157 11 = .ok (.iload_n 1, 1) := by decide +kernel
theorem dJ3_checkIndex_8e157_12 : decode cJ3_checkIndex_8e157 12 = .ok (.invokestatic 95, 3) := by decide +kernel
theorem dJ3_checkIndex_8e157_15 : decode cJ3_checkIndex_8e157 15 = .ok (.athrow, 1) := by decide +kernel
theorem dJ3_checkIndex_8e157_16 : decode cJ3_checkIndex_8e157 16 = .ok (.iload_n 0, 1) := by decide +kernel
theorem dJ3_checkIndex_8e157_17 : decode cJ3_checkIndex_8e157 17 = .ok (.ireturn, 1) := by decide +kernel
