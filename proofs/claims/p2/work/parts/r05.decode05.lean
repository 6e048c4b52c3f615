theorem dX11_isSwept_246 : decode cX11_isSwept 246 = .ok (.iload 4, 2) := by decide +kernel
theorem dX11_isSwept_248 : decode cX11_isSwept 248 = .ok (.iaload, 1) := by decide +kernel
theorem dX11_isSwept_249 : decode cX11_isSwept 249 = .ok (.aload_n 0, 1) := by decide +kernel
theorem dX11_isSwept_250 : decode cX11_isSwept 250 = .ok (.getfield 80, 3) := by decide +kernel
theorem dX11_isSwept_253 : decode cX11_isSwept 253 = .ok (.iload 4, 2) := by decide +kernel
theorem dX11_isSwept_255 : decode cX11_isSwept 255 = .ok (.iaload, 1) := by decide +kernel
theorem dX11_isSwept_256 : decode cX11_isSwept 256 = .ok (.iload 5, 2) := by decide +kernel
theorem dX11_isSwept_258 : decode cX11_isSwept 258 = .ok (.iload_n 2, 1) := by decide +kernel
theorem dX11_isSwept_259 : decode cX11_isSwept 259 = .ok (.iload_n 3, 1) := by decide +kernel
theorem dX11_isSwept_260 : decode cX11_isSwept 260 = .ok (.invokevirtual 234, 3) := by decide +kernel
theorem dX11_isSwept_263 : decode cX11_isSwept 263 = .ok (.ifCond .eq 5, 3) := by decide +kernel
theorem dX11_isSwept_266 : decode cX11_isSwept 266 = .ok (.iconst 1, 1) := by decide +kernel
theorem dX11_isSwept_267 : decode cX11_isSwept 267 = .ok (.ireturn, 1) := by decide +kernel
theorem dX11_isSwept_268 : decode cX11_isSwept 268 = .ok (.iinc 4 1, 3) := by decide +kernel
theorem dX11_isSwept_271 : decode cX11_isSwept 271 = .ok (.goto (-263), 3) := by decide +kernel
theorem dX11_isSwept_274 : decode cX11_isSwept 274 = .ok (.iconst 0, 1) := by decide +kernel
theorem dX11_isSwept_275 : decode cX11_isSwept 275 = .ok (.ireturn, 1) := by decide +kernel
theorem dX11_isFreeWay_0 : decode cX11_isFreeWay 0 = .ok (.aload_n 0, 1) := by decide +kernel
theorem dX11_isFreeWay_1 : decode cX11_isFreeWay 1 = .ok (.getfield 86, 3) := by decide +kernel
theorem dX11_isFreeWay_4 : decode cX11_isFreeWay 4 = .ok (.iconst 0, 1) := by decide +kernel
theorem dX11_isFreeWay_5 : decode cX11_isFreeWay 5 = .ok (.iaload, 1) := by decide +kernel
theorem dX11_isFreeWay_6 : decode cX11_isFreeWay 6 = .ok (.istore_n 3, 1) := by decide +kernel
theorem dX11_isFreeWay_7 : decode cX11_isFreeWay 7 = .ok (.aload_n 0, 1) := by decide +kernel
theorem dX11_isFreeWay_8 : decode cX11_isFreeWay 8 = .ok (.getfield 89, 3) := by decide +kernel
theorem dX11_isFreeWay_11 : decode cX11_isFreeWay 11 = .ok (.iconst 0, 1) := by decide +kernel
theorem dX11_isFreeWay_12 : decode cX11_isFreeWay 12 = .ok (.iaload, 1) := by decide +kernel
theorem dX11_isFreeWay_13 : decode cX11_isFreeWay 13 = .ok (.istore 4, 2) := by decide +kernel
theorem dX11_isFreeWay_15 : decode cX11_isFreeWay 15 = .ok (.aload_n 0, 1) := by decide +kernel
theorem dX11_isFreeWay_16 : decode cX11_isFreeWay 16 = .ok (.getfield 44, 3) := by decide +kernel
theorem dX11_isFreeWay_19 : decode cX11_isFreeWay 19 = .ok (.bipush 40, 2) := by decide +kernel
theorem dX11_isFreeWay_21 : decode cX11_isFreeWay 21 = .ok (.iload_n 1, 1) := by decide +kernel
theorem dX11_isFreeWay_22 : decode cX11_isFreeWay 22 = .ok (.imul, 1) := by decide +kernel
theorem dX11_isFreeWay_23 : decode cX11_isFreeWay 23 = .ok (.iaload, 1) := by decide +kernel
theorem dX11_isFreeWay_24 : decode cX11_isFreeWay 24 = .ok (.istore 5, 2) := by decide +kernel
theorem dX11_isFreeWay_26 : decode cX11_isFreeWay 26 = .ok (.aload_n 0, 1) := by decide +kernel
theorem dX11_isFreeWay_27 : decode cX11_isFreeWay 27 = .ok (.getfield 47, 3) := by decide +kernel
theorem dX11_isFreeWay_30 : decode cX11_isFreeWay 30 = .ok (.bipush 40, 2) := by decide +kernel
theorem dX11_isFreeWay_32 : decode cX11_isFreeWay 32 = .ok (.iload_n 1, 1) := by decide +kernel
theorem dX11_isFreeWay_33 : decode cX11_isFreeWay 33 = .ok (.imul, 1) := by decide +kernel
theorem dX11_isFreeWay_34 : decode cX11_isFreeWay 34 = .ok (.iaload, 1) := by decide +kernel
theorem dX11_isFreeWay_35 : decode cX11_isFreeWay 35 = .ok (.istore 6, 2) := by decide +kernel
theorem dX11_isFreeWay_37 : decode cX11_isFreeWay 37 = .ok (.iconst 0, 1) := by decide +kernel
theorem dX11_isFreeWay_38 : decode cX11_isFreeWay 38 = .ok (.istore 7, 2) := by decide +kernel
theorem dX11_isFreeWay_40 : decode cX11_isFreeWay 40 = .ok (.iload 7, 2) := by decide +kernel
theorem dX11_isFreeWay_42 : decode cX11_isFreeWay 42 = .ok (.aload_n 0, 1) := by decide +kernel
theorem dX11_isFreeWay_43 : decode cX11_isFreeWay 43 = .ok (.iload_n 2, 1) := by decide +kernel
theorem dX11_isFreeWay_44 : decode cX11_isFreeWay 44 = .ok (.invokevirtual 164, 3) := by decide +kernel
theorem dX11_isFreeWay_47 : decode cX11_isFreeWay 47 = .ok (.if_icmp .ge 70, 3) := by decide +kernel
theorem dX11_isFreeWay_50 : decode cX11_isFreeWay 50 = .ok (.aload_n 0, 1) := by decide +kernel
theorem dX11_isFreeWay_51 : decode cX11_isFreeWay 51 = .ok (.iload_n 2, 1) := by decide +kernel
theorem dX11_isFreeWay_52 : decode cX11_isFreeWay 52 = .ok (.iload 7, 2) := by decide +kernel
theorem dX11_isFreeWay_54 : decode cX11_isFreeWay 54 = .ok (.iconst 4, 1) := by decide +kernel
theorem dX11_isFreeWay_55 : decode cX11_isFreeWay 55 = .ok (.invokevirtual 167, 3) := by decide +kernel
theorem dX11_isFreeWay_58 : decode cX11_isFreeWay 58 = .ok (.aload_n 0, 1) := by decide +kernel
theorem dX11_isFreeWay_59 : decode cX11_isFreeWay 59 = .ok (.getfield 83, 3) := by decide +kernel
theorem dX11_isFreeWay_62 : decode cX11_isFreeWay 62 = .ok (.iconst 0, 1) := by decide +kernel
theorem dX11_isFreeWay_63 : decode cX11_isFreeWay 63 = .ok (.iload_n 3, 1) := by decide +kernel
theorem dX11_isFreeWay_64 : decode cX11_isFreeWay 64 = .ok (.iastore, 1) := by decide +kernel
theorem dX11_isFreeWay_65 : decode cX11_isFreeWay 65 = .ok (.aload_n 0, 1) := by decide +kernel
theorem dX11_isFreeWay_66 : decode cX11_isFreeWay 66 = .ok (.getfield 83, 3) := by decide +kernel
theorem dX11_isFreeWay_69 : decode cX11_isFreeWay 69 = .ok (.iconst 1, 1) := by decide +kernel
theorem dX11_isFreeWay_70 : decode cX11_isFreeWay 70 = .ok (.iload 4, 2) := by decide +kernel
theorem dX11_isFreeWay_72 : decode cX11_isFreeWay 72 = .ok (.iastore, 1) := by decide +kernel
theorem dX11_isFreeWay_73 : decode cX11_isFreeWay 73 = .ok (.aload_n 0, 1) := by decide +kernel
theorem dX11_isFreeWay_74 : decode cX11_isFreeWay 74 = .ok (.getfield 83, 3) := by decide +kernel
theorem dX11_isFreeWay_77 : decode cX11_isFreeWay 77 = .ok (.iconst 2, 1) := by decide +kernel
theorem dX11_isFreeWay_78 : decode cX11_isFreeWay 78 = .ok (.iload 5, 2) := by decide +kernel
theorem dX11_isFreeWay_80 : decode cX11_isFreeWay 80 = .ok (.iastore, 1) := by decide +kernel
theorem dX11_isFreeWay_81 : decode cX11_isFreeWay 81 = .ok (.aload_n 0, 1) := by decide +kernel
theorem dX11_isFreeWay_82 : decode cX11_isFreeWay 82 = .ok (.getfield 83, 3) := by decide +kernel
theorem dX11_isFreeWay_85 : decode cX11_isFreeWay 85 = .ok (.iconst 3, 1) := by decide +kernel
theorem dX11_isFreeWay_86 : decode cX11_isFreeWay 86 = .ok (.iload 6, 2) := by decide +kernel
theorem dX11_isFreeWay_88 : decode cX11_isFreeWay 88 = .ok (.iastore, 1) := by decide +kernel
theorem dX11_isFreeWay_89 : decode cX11_isFreeWay 89 = .ok (.aload_n 0, 1) := by decide +kernel
theorem dX11_isFreeWay_90 : decode cX11_isFreeWay 90 = .ok (.getfield 83, 3) := by decide +kernel
theorem dX11_isFreeWay_93 : decode cX11_isFreeWay 93 = .ok (.invokestatic 171, 3) := by decide +kernel
theorem dX11_isFreeWay_96 : decode cX11_isFreeWay 96 = .ok (.ifCond .eq 15, 3) := by decide +kernel
theorem dX11_isFreeWay_99 : decode cX11_isFreeWay 99 = .ok (.aload_n 0, 1) := by decide +kernel
theorem dX11_isFreeWay_100 : decode cX11_isFreeWay 100 = .ok (.iload_n 3, 1) := by decide +kernel
theorem dX11_isFreeWay_101 : decode cX11_isFreeWay 101 = .ok (.iload 4, 2) := by decide +kernel
theorem dX11_isFreeWay_103 : decode cX11_isFreeWay 103 = .ok (.invokevirtual 238, 3) := by decide +kernel
theorem dX11_isFreeWay_106 : decode cX11_isFreeWay 106 = .ok (.ifCond .ne 5, 3) := by decide +kernel
theorem dX11_isFreeWay_109 : decode cX11_isFreeWay 109 = .ok (.iconst 0, 1) := by decide +kernel
theorem dX11_isFreeWay_110 : decode cX11_isFreeWay 110 = .ok (.ireturn, 1) := by decide +kernel
theorem dX11_isFreeWay_111 : decode cX11_isFreeWay 111 = .ok (.iinc 7 1, 3) := by decide +kernel
theorem dX11_isFreeWay_114 : decode cX11_isFreeWay 114 = .ok (.goto (-74), 3) := by decide +kernel
theorem dX11_isFreeWay_117 : decode cX11_isFreeWay 117 = .ok (.iconst 1, 1) := by decide +kernel
theorem dX11_isFreeWay_118 : decode cX11_isFreeWay 118 = .ok (.ireturn, 1) := by decide +kernel
theorem dX11_isOnlyAt_0 : decode cX11_isOnlyAt 0 = .ok (.aload_n 0, 1) := by decide +kernel
theorem dX11_isOnlyAt_1 : decode cX11_isOnlyAt 1 = .ok (.getfield 83, 3) := by decide +kernel
theorem dX11_isOnlyAt_4 : decode cX11_isOnlyAt 4 = .ok (.iconst 4, 1) := by decide +kernel
theorem dX11_isOnlyAt_5 : decode cX11_isOnlyAt 5 = .ok (.iaload, 1) := by decide +kernel
theorem dX11_isOnlyAt_6 : decode cX11_isOnlyAt 6 = .ok (.aload_n 0, 1) := by decide +kernel
theorem dX11_isOnlyAt_7 : decode cX11_isOnlyAt 7 = .ok (.getfield 83, 3) := by decide +kernel
theorem dX11_isOnlyAt_10 : decode cX11_isOnlyAt 10 = .ok (.iconst 5, 1) := by decide +kernel
theorem dX11_isOnlyAt_11 : decode cX11_isOnlyAt 11 = .ok (.iaload, 1) := by decide +kernel
theorem dX11_isOnlyAt_12 : decode cX11_isOnlyAt 12 = .ok (.aload_n 0, 1) := by decide +kernel
theorem dX11_isOnlyAt_13 : decode cX11_isOnlyAt 13 = .ok (.getfield 83, 3) := by decide +kernel
theorem dX11_isOnlyAt_16 : decode cX11_isOnlyAt 16 = .ok (.bipush 6, 2) := by decide +kernel
theorem dX11_isOnlyAt_18 : decode cX11_isOnlyAt 18 = .ok (.iaload, 1) := by decide +kernel
theorem dX11_isOnlyAt_19 : decode cX11_isOnlyAt 19 = .ok (.aload_n 0, 1) := by decide +kernel
theorem dX11_isOnlyAt_20 : decode cX11_isOnlyAt 20 = .ok (.getfield 83, 3) := by decide +kernel
theorem dX11_isOnlyAt_23 : decode cX11_isOnlyAt 23 = .ok (.bipush 7, 2) := by decide +kernel
theorem dX11_isOnlyAt_25 : decode cX11_isOnlyAt 25 = .ok (.iaload, 1) := by decide +kernel
theorem dX11_isOnlyAt_26 : decode cX11_isOnlyAt 26 = .ok (.iload_n 1, 1) := by decide +kernel
theorem dX11_isOnlyAt_27 : decode cX11_isOnlyAt 27 = .ok (.iload_n 2, 1) := by decide +kernel
theorem dX11_isOnlyAt_28 : decode cX11_isOnlyAt 28 = .ok (.invokestatic 157, 3) := by decide +kernel
theorem dX11_isOnlyAt_31 : decode cX11_isOnlyAt 31 = .ok (.ifCond .ne 5, 3) := by decide +kernel
theorem dX11_isOnlyAt_34 : decode cX11_isOnlyAt 34 = .ok (.iconst 0, 1) := by decide +kernel
theorem dX11_isOnlyAt_35 : decode cX11_isOnlyAt 35 = .ok (.ireturn, 1) := by decide +kernel
theorem dX11_isOnlyAt_36 : decode cX11_isOnlyAt 36 = .ok (.aload_n 0, 1) := by decide +kernel
theorem dX11_isOnlyAt_37 : decode cX11_isOnlyAt 37 = .ok (.getfield 83, 3) := by decide +kernel
theorem dX11_isOnlyAt_40 : decode cX11_isOnlyAt 40 = .ok (.iconst 0, 1) := by decide +kernel
theorem dX11_isOnlyAt_41 : decode cX11_isOnlyAt 41 = .ok (.iaload, 1) := by decide +kernel
theorem dX11_isOnlyAt_42 : decode cX11_isOnlyAt 42 = .ok (.aload_n 0, 1) := by decide +kernel
theorem dX11_isOnlyAt_43 : decode cX11_isOnlyAt 43 = .ok (.getfield 83, 3) := by decide +kernel
theorem dX11_isOnlyAt_46 : decode cX11_isOnlyAt 46 = .ok (.iconst 2, 1) := by decide +kernel
theorem dX11_isOnlyAt_47 : decode cX11_isOnlyAt 47 = .ok (.iaload, 1) := by decide +kernel
theorem dX11_isOnlyAt_48 : decode cX11_isOnlyAt 48 = .ok (.if_icmp .ne 18, 3) := by decide +kernel
theorem dX11_isOnlyAt_51 : decode cX11_isOnlyAt 51 = .ok (.aload_n 0, 1) := by decide +kernel
theorem dX11_isOnlyAt_52 : decode cX11_isOnlyAt 52 = .ok (.getfield 83, 3) := by decide +kernel
theorem dX11_isOnlyAt_55 : decode cX11_isOnlyAt 55 = .ok (.iconst 1, 1) := by decide +kernel
theorem dX11_isOnlyAt_56 : decode cX11_isOnlyAt 56 = .ok (.iaload, 1) := by decide +kernel
theorem dX11_isOnlyAt_57 : decode cX11_isOnlyAt 57 = .ok (.aload_n 0, 1) := by decide +kernel
theorem dX11_isOnlyAt_58 : decode cX11_isOnlyAt 58 = .ok (.getfield 83, 3) := by decide +kernel
theorem dX11_isOnlyAt_61 : decode cX11_isOnlyAt 61 = .ok (.iconst 3, 1) := by decide +kernel
theorem dX11_isOnlyAt_62 : decode cX11_isOnlyAt 62 = .ok (.iaload, 1) := by decide +kernel
theorem dX11_isOnlyAt_63 : decode cX11_isOnlyAt 63 = .ok (.if_icmp .eq 35, 3) := by decide +kernel
theorem dX11_isOnlyAt_66 : decode cX11_isOnlyAt 66 = .ok (.aload_n 0, 1) := by decide +kernel
theorem dX11_isOnlyAt_67 : decode cX11_isOnlyAt 67 = .ok (.getfield 83, 3) := by decide +kernel
theorem dX11_isOnlyAt_70 : decode cX11_isOnlyAt 70 = .ok (.iconst 4, 1) := by decide +kernel
theorem dX11_isOnlyAt_71 : decode cX11_isOnlyAt 71 = .ok (.iaload, 1) := by decide +kernel
theorem dX11_isOnlyAt_72 : decode cX11_isOnlyAt 72 = .ok (.aload_n 0, 1) := by decide +kernel
theorem dX11_isOnlyAt_73 : decode cX11_isOnlyAt 73 = .ok (.getfield 83, 3) := by decide +kernel
theorem dX11_isOnlyAt_76 : decode cX11_isOnlyAt 76 = .ok (.bipush 6, 2) := by decide +kernel
theorem dX11_isOnlyAt_78 : decode cX11_isOnlyAt 78 = .ok (.iaload, 1) := by decide +kernel
theorem dX11_isOnlyAt_79 : decode cX11_isOnlyAt 79 = .ok (.if_icmp .ne 21, 3) := by decide +kernel
theorem dX11_isOnlyAt_82 : decode cX11_isOnlyAt 82 = .ok (.aload_n 0, 1) := by decide +kernel
theorem dX11_isOnlyAt_83 : decode cX11_isOnlyAt 83 = .ok (.getfield 83, 3) := by decide +kernel
theorem dX11_isOnlyAt_86 : decode cX11_isOnlyAt 86 = .ok (.iconst 5, 1) := by decide +kernel
theorem dX11_isOnlyAt_87 : decode cX11_isOnlyAt 87 = .ok (.iaload, 1) := by decide +kernel
theorem dX11_isOnlyAt_88 : decode cX11_isOnlyAt 88 = .ok (.aload_n 0, 1) := by decide +kernel
theorem dX11_isOnlyAt_89 : decode cX11_isOnlyAt 89 = .ok (.getfield 83, 3) := by decide +kernel
theorem dX11_isOnlyAt_92 : decode cX11_isOnlyAt 92 = .ok (.bipush 7, 2) := by decide +kernel
theorem dX11_isOnlyAt_94 : decode cX11_isOnlyAt 94 = .ok (.iaload, 1) := by decide +kernel
theorem dX11_isOnlyAt_95 : decode cX11_isOnlyAt 95 = .ok (.if_icmp .ne 5, 3) := by decide +kernel
theorem dX11_isOnlyAt_98 : decode cX11_isOnlyAt 98 = .ok (.iconst 1, 1) := by decide +kernel
theorem dX11_isOnlyAt_99 : decode cX11_isOnlyAt 99 = .ok (.ireturn, 1) := by decide +kernel
theorem dX11_isOnlyAt_100 : decode cX11_isOnlyAt 100 = .ok (.aload_n 0, 1) := by decide +kernel
theorem dX11_isOnlyAt_101 : decode cX11_isOnlyAt 101 = .ok (.getfield 83, 3) := by decide +kernel
theorem dX11_isOnlyAt_104 : decode cX11_isOnlyAt 104 = .ok (.iconst 2, 1) := by decide +kernel
theorem dX11_isOnlyAt_105 : decode cX11_isOnlyAt 105 = .ok (.iaload, 1) := by decide +kernel
theorem dX11_isOnlyAt_106 : decode cX11_isOnlyAt 106 = .ok (.aload_n 0, 1) := by decide +kernel
theorem dX11_isOnlyAt_107 : decode cX11_isOnlyAt 107 = .ok (.getfield 83, 3) := by decide +kernel
theorem dX11_isOnlyAt_110 : decode cX11_isOnlyAt 110 = .ok (.iconst 0, 1) := by decide +kernel
theorem dX11_isOnlyAt_111 : decode cX11_isOnlyAt 111 = .ok (.iaload, 1) := by decide +kernel
theorem dX11_isOnlyAt_112 : decode cX11_isOnlyAt 112 = .ok (.isub, 1) := by decide +kernel
theorem dX11_isOnlyAt_113 : decode cX11_isOnlyAt 113 = .ok (.i2l, 1) := by decide +kernel
theorem dX11_isOnlyAt_114 : decode cX11_isOnlyAt 114 = .ok (.aload_n 0, 1) := by decide +kernel
theorem dX11_isOnlyAt_115 : decode cX11_isOnlyAt 115 = .ok (.getfield 83, 3) := by decide +kernel
theorem dX11_isOnlyAt_118 : decode cX11_isOnlyAt 118 = .ok (.bipush 7, 2) := by decide +kernel
theorem dX11_isOnlyAt_120 : decode cX11_isOnlyAt 120 = .ok (.iaload, 1) := by decide +kernel
theorem dX11_isOnlyAt_121 : decode cX11_isOnlyAt 121 = .ok (.aload_n 0, 1) := by decide +kernel
theorem dX11_isOnlyAt_122 : decode cX11_isOnlyAt 122 = .ok (.getfield 83, 3) := by decide +kernel
theorem dX11_isOnlyAt_125 : decode cX11_isOnlyAt 125 = .ok (.iconst 5, 1) := by decide +kernel
theorem dX11_isOnlyAt_126 : decode cX11_isOnlyAt 126 = .ok (.iaload, 1) := by decide +kernel
theorem dX11_isOnlyAt_127 : decode cX11_isOnlyAt 127 = .ok (.isub, 1) := by decide +kernel
theorem dX11_isOnlyAt_128 : decode cX11_isOnlyAt 128 = .ok (.i2l, 1) := by decide +kernel
theorem dX11_isOnlyAt_129 : decode cX11_isOnlyAt 129 = .ok (.lmul, 1) := by decide +kernel
theorem dX11_isOnlyAt_130 : decode cX11_isOnlyAt 130 = .ok (.aload_n 0, 1) := by decide +kernel
theorem dX11_isOnlyAt_131 : decode cX11_isOnlyAt 131 = .ok (.getfield 83, 3) := by decide +kernel
theorem dX11_isOnlyAt_134 : decode cX11_isOnlyAt 134 = .ok (.iconst 3, 1) := by decide +kernel
theorem dX11_isOnlyAt_135 : decode cX11_isOnlyAt 135 = .ok (.iaload, 1) := by decide +kernel
theorem dX11_isOnlyAt_136 : decode cX11_isOnlyAt 136 = .ok (.aload_n 0, 1) := by decide +kernel
theorem dX11_isOnlyAt_137 : decode cX11_isOnlyAt 137 = .ok (.getfield 83, 3) := by decide +kernel
theorem dX11_isOnlyAt_140 : decode cX11_isOnlyAt 140 = .ok (.iconst 1, 1) := by decide +kernel
theorem dX11_isOnlyAt_141 : decode cX11_isOnlyAt 141 = .ok (.iaload, 1) := by decide +kernel
theorem dX11_isOnlyAt_142 : decode cX11_isOnlyAt 142 = .ok (.isub, 1) := by decide +kernel
theorem dX11_isOnlyAt_143 : decode cX11_isOnlyAt 143 = .ok (.i2l, 1) := by decide +kernel
theorem dX11_isOnlyAt_144 : decode cX11_isOnlyAt 144 = .ok (.aload_n 0, 1) := by decide +kernel
theorem dX11_isOnlyAt_145 : decode cX11_isOnlyAt 145 = .ok (.getfield 83, 3) := by decide +kernel
theorem dX11_isOnlyAt_148 : decode cX11_isOnlyAt 148 = .ok (.bipush 6, 2) := by decide +kernel
theorem dX11_isOnlyAt_150 : decode cX11_isOnlyAt 150 = .ok (.iaload, 1) := by decide +kernel
theorem dX11_isOnlyAt_151 : decode cX11_isOnlyAt 151 = .ok (.aload_n 0, 1) := by decide +kernel
theorem dX11_isOnlyAt_152 : decode cX11_isOnlyAt 152 = .ok (.getfield 83, 3) := by decide +kernel
theorem dX11_isOnlyAt_155 : decode cX11_isOnlyAt 155 = .ok (.iconst 4, 1) := by decide +kernel
theorem dX11_isOnlyAt_156 : decode cX11_isOnlyAt 156 = .ok (.iaload, 1) := by decide +kernel
theorem dX11_isOnlyAt_157 : decode cX11_isOnlyAt 157 = .ok (.isub, 1) := by decide +kernel
theorem dX11_isOnlyAt_158 : decode cX11_isOnlyAt 158 = .ok (.i2l, 1) := by decide +kernel
theorem dX11_isOnlyAt_159 : decode cX11_isOnlyAt 159 = .ok (.lmul, 1) := by decide +kernel
theorem dX11_isOnlyAt_160 : decode cX11_isOnlyAt 160 = .ok (.lsub, 1) := by decide +kernel
theorem dX11_isOnlyAt_161 : decode cX11_isOnlyAt 161 = .ok (.lstore_n 3, 1) := by decide +kernel
theorem dX11_isOnlyAt_162 : decode cX11_isOnlyAt 162 = .ok (.lload_n 3, 1) := by decide +kernel
theorem dX11_isOnlyAt_163 : decode cX11_isOnlyAt 163 = .ok (.lconst 0, 1) := by decide +kernel
theorem dX11_isOnlyAt_164 : decode cX11_isOnlyAt 164 = .ok (.lcmp, 1) := by decide +kernel
theorem dX11_isOnlyAt_165 : decode cX11_isOnlyAt 165 = .ok (.ifCond .eq 5, 3) := by decide +kernel
theorem dX11_isOnlyAt_168 : decode cX11_isOnlyAt 168 = .ok (.iconst 1, 1) := by decide +kernel
theorem dX11_isOnlyAt_169 : decode cX11_isOnlyAt 169 = .ok (.ireturn, 1) := by decide +kernel
theorem dX11_isOnlyAt_170 : decode cX11_isOnlyAt 170 = .ok (.aload_n 0, 1) := by decide +kernel
theorem dX11_isOnlyAt_171 : decode cX11_isOnlyAt 171 = .ok (.aload_n 0, 1) := by decide +kernel
theorem dX11_isOnlyAt_172 : decode cX11_isOnlyAt 172 = .ok (.getfield 83, 3) := by decide +kernel
theorem dX11_isOnlyAt_175 : decode cX11_isOnlyAt 175 = .ok (.iconst 4, 1) := by decide +kernel
theorem dX11_isOnlyAt_176 : decode cX11_isOnlyAt 176 = .ok (.iaload, 1) := by decide +kernel
theorem dX11_isOnlyAt_177 : decode cX11_isOnlyAt 177 = .ok (.aload_n 0, 1) := by decide +kernel
theorem dX11_isOnlyAt_178 : decode cX11_isOnlyAt 178 = .ok (.getfield 83, 3) := by decide +kernel
theorem dX11_isOnlyAt_181 : decode cX11_isOnlyAt 181 = .ok (.iconst 5, 1) := by decide +kernel
theorem dX11_isOnlyAt_182 : decode cX11_isOnlyAt 182 = .ok (.iaload, 1) := by decide +kernel
theorem dX11_isOnlyAt_183 : decode cX11_isOnlyAt 183 = .ok (.iload_n 1, 1) := by decide +kernel
theorem dX11_isOnlyAt_184 : decode cX11_isOnlyAt 184 = .ok (.iload_n 2, 1) := by decide +kernel
theorem dX11_isOnlyAt_185 : decode cX11_isOnlyAt 185 = .ok (.invokevirtual 241, 3) := by decide +kernel
theorem dX11_isOnlyAt_188 : decode cX11_isOnlyAt 188 = .ok (.ifCond .ne 30, 3) := by decide +kernel
theorem dX11_isOnlyAt_191 : decode cX11_isOnlyAt 191 = .ok (.aload_n 0, 1) := by decide +kernel
theorem dX11_isOnlyAt_192 : decode cX11_isOnlyAt 192 = .ok (.aload_n 0, 1) := by decide +kernel
theorem dX11_isOnlyAt_193 : decode cX11_isOnlyAt 193 = .ok (.getfield 83, 3) := by decide +kernel
theorem dX11_isOnlyAt_196 : decode cX11_isOnlyAt 196 = .ok (.bipush 6, 2) := by decide +kernel
theorem dX11_isOnlyAt_198 : decode cX11_isOnlyAt 198 = .ok (.iaload, 1) := by decide +kernel
theorem dX11_isOnlyAt_199 : decode cX11_isOnlyAt 199 = .ok (.aload_n 0, 1) := by decide +kernel
theorem dX11_isOnlyAt_200 : decode cX11_isOnlyAt 200 = .ok (.getfield 83, 3) := by decide +kernel
theorem dX11_isOnlyAt_203 : decode cX11_isOnlyAt 203 = .ok (.bipush 7, 2) := by decide +kernel
theorem dX11_isOnlyAt_205 : decode cX11_isOnlyAt 205 = .ok (.iaload, 1) := by decide +kernel
theorem dX11_isOnlyAt_206 : decode cX11_isOnlyAt 206 = .ok (.iload_n 1, 1) := by decide +kernel
theorem dX11_isOnlyAt_207 : decode cX11_isOnlyAt 207 = .ok (.iload_n 2, 1) := by decide +kernel
theorem dX11_isOnlyAt_208 : decode cX11_isOnlyAt 208 = .ok (.invokevirtual 241, 3) := by decide +kernel
theorem dX11_isOnlyAt_211 : decode cX11_isOnlyAt 211 = .ok (.ifCond .ne 7, 3) := by decide +kernel
theorem dX11_isOnlyAt_214 : decode cX11_isOnlyAt 214 = .ok (.iconst 1, 1) := by decide +kernel
theorem dX11_isOnlyAt_215 : decode cX11_isOnlyAt 215 = .ok (.goto 4, 3) := by decide +kernel
theorem dX11_isOnlyAt_218 : decode cX11_isOnlyAt 218 = .ok (.iconst 0, 1) := by decide +kernel
theorem dX11_isOnlyAt_219 : decode cX11_isOnlyAt 219 = .ok (.ireturn, 1) := by decide +kernel
theorem dX11_isAhead_0 : decode cX11_isAhead 0 = .ok (.iload_n 1, 1) := by decide +kernel
theorem dX11_isAhead_1 : decode cX11_isAhead 1 = .ok (.iload_n 3, 1) := by decide +kernel
theorem dX11_isAhead_2 : decode cX11_isAhead 2 = .ok (.isub, 1) := by decide +kernel
theorem dX11_isAhead_3 : decode cX11_isAhead 3 = .ok (.i2l, 1) := by decide +kernel
theorem dX11_isAhead_4 : decode cX11_isAhead 4 = .ok (.aload_n 0, 1) := by decide +kernel
theorem dX11_isAhead_5 : decode cX11_isAhead 5 = .ok (.getfield 83, 3) := by decide +kernel
theorem dX11_isAhead_8 : decode cX11_isAhead 8 = .ok (.iconst 2, 1) := by decide +kernel
theorem dX11_isAhead_9 : decode cX11_isAhead 9 = .ok (.iaload, 1) := by decide +kernel
theorem dX11_isAhead_10 : decode cX11_isAhead 10 = .ok (.iload_n 3, 1) := by decide +kernel
theorem dX11_isAhead_11 : decode cX11_isAhead 11 = .ok (.isub, 1) := by decide +kernel
theorem dX11_isAhead_12 : decode cX11_isAhead 12 = .ok (.i2l, 1) := by decide +kernel
theorem dX11_isAhead_13 : decode cX11_isAhead 13 = .ok (.lmul, 1) := by decide +kernel
theorem dX11_isAhead_14 : decode cX11_isAhead 14 = .ok (.iload_n 2, 1) := by decide +kernel
theorem dX11_isAhead_15 : decode cX11_isAhead 15 = .ok (.iload 4, 2) := by decide +kernel
theorem dX11_isAhead_17 : decode cX11_isAhead 17 = .ok (.isub, 1) := by decide +kernel
theorem dX11_isAhead_18 : decode cX11_isAhead 18 = .ok (.i2l, 1) := by decide +kernel
theorem dX11_isAhead_19 : decode cX11_isAhead 19 = .ok (.aload_n 0, 1) := by decide +kernel
theorem dX11_isAhead_20 : decode cX11_isAhead 20 = .ok (.getfield 83, 3) := by decide +kernel
theorem dX11_isAhead_23 : decode cX11_isAhead 23 = .ok (.iconst 3, 1) := by decide +kernel
theorem dX11_isAhead_24 : decode cX11_isAhead 24 = .ok (.iaload, 1) := by decide +kernel
theorem dX11_isAhead_25 : decode cX11_isAhead 25 = .ok (.iload 4, 2) := by decide +kernel
theorem dX11_isAhead_27 : decode cX11_isAhead 27 = .ok (.isub, 1) := by decide +kernel
theorem dX11_isAhead_28 : decode cX11_isAhead 28 = .ok (.i2l, 1) := by decide +kernel
theorem dX11_isAhead_29 : decode cX11_isAhead 29 = .ok (.lmul, 1) := by decide +kernel
theorem dX11_isAhead_30 : decode cX11_isAhead 30 = .ok (.ladd, 1) := by decide +kernel
theorem dX11_isAhead_31 : decode cX11_isAhead 31 = .ok (.lconst 0, 1) := by decide +kernel
theorem dX11_isAhead_32 : decode cX11_isAhead 32 = .ok (.lcmp, 1) := by decide +kernel
theorem dX11_isAhead_33 : decode cX11_isAhead 33 = .ok (.ifCond .le 7, 3) := by decide +kernel
theorem dX11_isAhead_36 : decode cX11_isAhead 36 = .ok (.iconst 1, 1) := by decide +kernel
theorem dX11_isAhead_37 : decode cX11_isAhead 37 = .ok (.goto 4, 3) := by decide +kernel
theorem dX11_isAhead_40 : decode cX11_isAhead 40 = .ok (.iconst 0, 1) := by decide +kernel
theorem dX11_isAhead_41 : decode cX11_isAhead 41 = .ok (.ireturn, 1) := by decide +kernel
theorem dX11_write_0 : decode cX11_write 0 = .ok (.aload_n 0, 1) := by decide +kernel
theorem dX11_write_1 : decode cX11_write 1 = .ok (.getfield 244, 3) := by decide +kernel
theorem dX11_write_4 : decode cX11_write 4 = .ok (.aload_n 0, 1) := by decide +kernel
theorem dX11_write_5 : decode cX11_write 5 = .ok (.getfield 74, 3) := by decide +kernel
theorem dX11_write_8 : decode cX11_write 8 = .ok (.arraylength, 1) := by decide +kernel
theorem dX11_write_9 : decode cX11_write 9 = .ok (.if_icmp .ne 42, 3) := by decide +kernel
theorem dX11_write_12 : decode cX11_write 12 = .ok (.iconst 2, 1) := by decide +kernel
theorem dX11_write_13 : decode cX11_write 13 = .ok (.aload_n 0, 1) := by decide +kernel
theorem dX11_write_14 : decode cX11_write 14 = .ok (.getfield 244, 3) := by decide +kernel
theorem dX11_write_17 : decode cX11_write 17 = .ok (.imul, 1) := by decide +kernel
theorem dX11_write_18 : decode cX11_write 18 = .ok (.newarray .int, 2) := by decide +kernel
theorem dX11_write_20 : decode cX11_write 20 = .ok (.astore_n 2, 1) := by decide +kernel
theorem dX11_write_21 : decode cX11_write 21 = .ok (.iconst 0, 1) := by decide +kernel
theorem dX11_write_22 : decode cX11_write 22 = .ok (.istore_n 3, 1) := by decide +kernel
theorem dX11_write_23 : decode cX11_write 23 = .ok (.iload_n 3, 1) := by decide +kernel
theorem dX11_write_24 : decode cX11_write 24 = .ok (.aload_n 0, 1) := by decide +kernel
theorem dX11_write_25 : decode cX11_write 25 = .ok (.getfield 244, 3) := by decide +kernel
theorem dX11_write_28 : decode cX11_write 28 = .ok (.if_icmp .ge 18, 3) := by decide +kernel
theorem dX11_write_31 : decode cX11_write 31 = .ok (.aload_n 2, 1) := by decide +kernel
theorem dX11_write_32 : decode cX11_write 32 = .ok (.iload_n 3, 1) := by decide +kernel
theorem dX11_write_33 : decode cX11_write 33 = .ok (.aload_n 0, 1) := by decide +kernel
theorem dX11_write_34 : decode cX11_write 34 = .ok (.getfield 74, 3) := by decide +kernel
theorem dX11_write_37 : decode cX11_write 37 = .ok (.iload_n 3, 1) := by decide +kernel
theorem dX11_write_38 : decode cX11_write 38 = .ok (.iaload, 1) := by decide +kernel
theorem dX11_write_39 : decode cX11_write 39 = .ok (.iastore, 1) := by decide +kernel
theorem dX11_write_40 : decode cX11_write 40 = .ok (.iinc 3 1, 3) := by decide +kernel
theorem dX11_write_43 : decode cX11_write 43 = .ok (.goto (-20), 3) := by decide +kernel
theorem dX11_write_46 : decode cX11_write 46 = .ok (.aload_n 0, 1) := by decide +kernel
theorem dX11_write_47 : decode cX11_write 47 = .ok (.aload_n 2, 1) := by decide +kernel
theorem dX11_write_48 : decode cX11_write 48 = .ok (.putfield 74, 3) := by decide +kernel
theorem dX11_write_51 : decode cX11_write 51 = .ok (.aload_n 0, 1) := by decide +kernel
theorem dX11_write_52 : decode cX11_write 52 = .ok (.getfield 74, 3) := by decide +kernel
theorem dX11_write_55 : decode cX11_write 55 = .ok (.aload_n 0, 1) := by decide +kernel
theorem dX11_write_56 : decode cX11_write 56 = .ok (.getfield 244, 3) := by decide +kernel
theorem dX11_write_59 : decode cX11_write 59 = .ok (.iload_n 1, 1) := by decide +kernel
theorem dX11_write_60 : decode cX11_write 60 = .ok (.iastore, 1) := by decide +kernel
theorem dX11_write_61 : decode cX11_write 61 = .ok (.aload_n 0, 1) := by decide +kernel
theorem dX11_write_62 : decode cX11_write 62 = .ok (.dup, 1) := by decide +kernel
theorem dX11_write_63 : decode cX11_write 63 = .ok (.getfield 244, 3) := by decide +kernel
theorem dX11_write_66 : decode cX11_write 66 = .ok (.iconst 1, 1) := by decide +kernel
theorem dX11_write_67 : decode cX11_write 67 = .ok (.iadd, 1) := by decide +kernel
theorem dX11_write_68 : decode cX11_write 68 = .ok (.putfield 244, 3) := by decide +kernel
theorem dX11_write_71 : decode cX11_write 71 = .ok (.return_, 1) := by decide +kernel
theorem dX11_keep_0 : decode cX11_keep 0 = .ok (.aload_n 0, 1) := by decide +kernel
theorem dX11_keep_1 : decode cX11_keep 1 = .ok (.aload_n 0, 1) := by decide +kernel
theorem dX11_keep_2 : decode cX11_keep 2 = .ok (.getfield 71, 3) := by decide +kernel
theorem dX11_keep_5 : decode cX11_keep 5 = .ok (.iload_n 1, 1) := by decide +kernel
theorem dX11_keep_6 : decode cX11_keep 6 = .ok (.iaload, 1) := by decide +kernel
theorem dX11_keep_7 : decode cX11_keep 7 = .ok (.putfield 244, 3) := by decide +kernel
theorem dX11_keep_10 : decode cX11_keep 10 = .ok (.aload_n 0, 1) := by decide +kernel
theorem dX11_keep_11 : decode cX11_keep 11 = .ok (.aload_n 0, 1) := by decide +kernel
theorem dX11_keep_12 : decode cX11_keep 12 = .ok (.getfield 130, 3) := by decide +kernel
theorem dX11_keep_15 : decode cX11_keep 15 = .ok (.invokevirtual 247, 3) := by decide +kernel
theorem dX11_keep_18 : decode cX11_keep 18 = .ok (.iconst 0, 1) := by decide +kernel
theorem dX11_keep_19 : decode cX11_keep 19 = .ok (.istore_n 2, 1) := by decide +kernel
theorem dX11_keep_20 : decode cX11_keep 20 = .ok (.iload_n 2, 1) := by decide +kernel
theorem dX11_keep_21 : decode cX11_keep 21 = .ok (.aload_n 0, 1) := by decide +kernel
theorem dX11_keep_22 : decode cX11_keep 22 = .ok (.getfield 130, 3) := by decide +kernel
theorem dX11_keep_25 : decode cX11_keep 25 = .ok (.if_icmp .ge 180, 3) := by decide +kernel
theorem dX11_keep_28 : decode cX11_keep 28 = .ok (.aload_n 0, 1) := by decide +kernel
theorem dX11_keep_29 : decode cX11_keep 29 = .ok (.aload_n 0, 1) := by decide +kernel
theorem dX11_keep_30 : decode cX11_keep 30 = .ok (.getfield 7, 3) := by decide +kernel
theorem dX11_keep_33 : decode cX11_keep 33 = .ok (.iload_n 2, 1) := by decide +kernel
theorem dX11_keep_34 : decode cX11_keep 34 = .ok (.iaload, 1) := by decide +kernel
theorem dX11_keep_35 : decode cX11_keep 35 = .ok (.invokevirtual 247, 3) := by decide +kernel
theorem dX11_keep_38 : decode cX11_keep 38 = .ok (.aload_n 0, 1) := by decide +kernel
theorem dX11_keep_39 : decode cX11_keep 39 = .ok (.aload_n 0, 1) := by decide +kernel
theorem dX11_keep_40 : decode cX11_keep 40 = .ok (.getfield 22, 3) := by decide +kernel
theorem dX11_keep_43 : decode cX11_keep 43 = .ok (.iload_n 2, 1) := by decide +kernel
theorem dX11_keep_44 : decode cX11_keep 44 = .ok (.iaload, 1) := by decide +kernel
theorem dX11_keep_45 : decode cX11_keep 45 = .ok (.invokevirtual 247, 3) := by decide +kernel
theorem dX11_keep_48 : decode cX11_keep 48 = .ok (.aload_n 0, 1) := by decide +kernel
theorem dX11_keep_49 : decode cX11_keep 49 = .ok (.aload_n 0, 1) := by decide +kernel
theorem dX11_keep_50 : decode cX11_keep 50 = .ok (.getfield 29, 3) := by decide +kernel
theorem dX11_keep_53 : decode cX11_keep 53 = .ok (.iload_n 2, 1) := by decide +kernel
theorem dX11_keep_54 : decode cX11_keep 54 = .ok (.iaload, 1) := by decide +kernel
theorem dX11_keep_55 : decode cX11_keep 55 = .ok (.invokevirtual 247, 3) := by decide +kernel
theorem dX11_keep_58 : decode cX11_keep 58 = .ok (.aload_n 0, 1) := by decide +kernel
theorem dX11_keep_59 : decode cX11_keep 59 = .ok (.aload_n 0, 1) := by decide +kernel
theorem dX11_keep_60 : decode cX11_keep 60 = .ok (.getfield 38, 3) := by decide +kernel
theorem dX11_keep_63 : decode cX11_keep 63 = .ok (.iload_n 2, 1) := by decide +kernel
theorem dX11_keep_64 : decode cX11_keep 64 = .ok (.iaload, 1) := by decide +kernel
theorem dX11_keep_65 : decode cX11_keep 65 = .ok (.invokevirtual 247, 3) := by decide +kernel
theorem dX11_keep_68 : decode cX11_keep 68 = .ok (.aload_n 0, 1) := by decide +kernel
theorem dX11_keep_69 : decode cX11_keep 69 = .ok (.aload_n 0, 1) := by decide +kernel
theorem dX11_keep_70 : decode cX11_keep 70 = .ok (.getfield 32, 3) := by decide +kernel
theorem dX11_keep_73 : decode cX11_keep 73 = .ok (.iload_n 2, 1) := by decide +kernel
theorem dX11_keep_74 : decode cX11_keep 74 = .ok (.iaload, 1) := by decide +kernel
theorem dX11_keep_75 : decode cX11_keep 75 = .ok (.invokevirtual 247, 3) := by decide +kernel
theorem dX11_keep_78 : decode cX11_keep 78 = .ok (.aload_n 0, 1) := by decide +kernel
theorem dX11_keep_79 : decode cX11_keep 79 = .ok (.aload_n 0, 1) := by decide +kernel
theorem dX11_keep_80 : decode cX11_keep 80 = .ok (.getfield 35, 3) := by decide +kernel
theorem dX11_keep_83 : decode cX11_keep 83 = .ok (.iload_n 2, 1) := by decide +kernel
theorem dX11_keep_84 : decode cX11_keep 84 = .ok (.iaload, 1) := by decide +kernel
theorem dX11_keep_85 : decode cX11_keep 85 = .ok (.invokevirtual 247, 3) := by decide +kernel
theorem dX11_keep_88 : decode cX11_keep 88 = .ok (.aload_n 0, 1) := by decide +kernel
theorem dX11_keep_89 : decode cX11_keep 89 = .ok (.aload_n 0, 1) := by decide +kernel
theorem dX11_keep_90 : decode cX11_keep 90 = .ok (.getfield 13, 3) := by decide +kernel
theorem dX11_keep_93 : decode cX11_keep 93 = .ok (.iload_n 2, 1) := by decide +kernel
theorem dX11_keep_94 : decode cX11_keep 94 = .ok (.iaload, 1) := by decide +kernel
theorem dX11_keep_95 : decode cX11_keep 95 = .ok (.invokevirtual 247, 3) := by decide +kernel
theorem dX11_keep_98 : decode cX11_keep 98 = .ok (.aload_n 0, 1) := by decide +kernel
theorem dX11_keep_99 : decode cX11_keep 99 = .ok (.aload_n 0, 1) := by decide +kernel
theorem dX11_keep_100 : decode cX11_keep 100 = .ok (.getfield 16, 3) := by decide +kernel
theorem dX11_keep_103 : decode cX11_keep 103 = .ok (.iload_n 2, 1) := by decide +kernel
theorem dX11_keep_104 : decode cX11_keep 104 = .ok (.iaload, 1) := by decide +kernel
theorem dX11_keep_105 : decode cX11_keep 105 = .ok (.invokevirtual 247, 3) := by decide +kernel
theorem dX11_keep_108 : decode cX11_keep 108 = .ok (.aload_n 0, 1) := by decide +kernel
theorem dX11_keep_109 : decode cX11_keep 109 = .ok (.aload_n 0, 1) := by decide +kernel
theorem dX11_keep_110 : decode cX11_keep 110 = .ok (.getfield 19, 3) := by decide +kernel
theorem dX11_keep_113 : decode cX11_keep 113 = .ok (.iload_n 2, 1) := by decide +kernel
theorem dX11_keep_114 : decode cX11_keep 114 = .ok (.iaload, 1) := by decide +kernel
theorem dX11_keep_115 : decode cX11_keep 115 = .ok (.invokevirtual 247, 3) := by decide +kernel
theorem dX11_keep_118 : decode cX11_keep 118 = .ok (.aload_n 0, 1) := by decide +kernel
theorem dX11_keep_119 : decode cX11_keep 119 = .ok (.getfield 25, 3) := by decide +kernel
theorem dX11_keep_122 : decode cX11_keep 122 = .ok (.iload_n 2, 1) := by decide +kernel
theorem dX11_keep_123 : decode cX11_keep 123 = .ok (.baload, 1) := by decide +kernel
theorem dX11_keep_124 : decode cX11_keep 124 = .ok (.ifCond .ne 12, 3) := by decide +kernel
theorem dX11_keep_127 : decode cX11_keep 127 = .ok (.aload_n 0, 1) := by decide +kernel
theorem dX11_keep_128 : decode cX11_keep 128 = .ok (.getfield 22, 3) := by decide +kernel
theorem dX11_keep_131 : decode cX11_keep 131 = .ok (.iload_n 2, 1) := by decide +kernel
theorem dX11_keep_132 : decode cX11_keep 132 = .ok (.iaload, 1) := by decide +kernel
theorem dX11_keep_133 : decode cX11_keep 133 = .ok (.ifCond .ne 7, 3) := by decide +kernel
theorem dX11_keep_136 : decode cX11_keep 136 = .ok (.iconst 0, 1) := by decide +kernel
theorem dX11_keep_137 : decode cX11_keep 137 = .ok (.goto 9, 3) := by decide +kernel
theorem dX11_keep_140 : decode cX11_keep 140 = .ok (.aload_n 0, 1) := by decide +kernel
theorem dX11_keep_141 : decode cX11_keep 141 = .ok (.getfield 41, 3) := by decide +kernel
theorem dX11_keep_144 : decode cX11_keep 144 = .ok (.iload_n 2, 1) := by decide +kernel
theorem dX11_keep_145 : decode cX11_keep 145 = .ok (.iaload, 1) := by decide +kernel
theorem dX11_keep_146 : decode cX11_keep 146 = .ok (.istore_n 3, 1) := by decide +kernel
theorem dX11_keep_147 : decode cX11_keep 147 = .ok (.aload_n 0, 1) := by decide +kernel
theorem dX11_keep_148 : decode cX11_keep 148 = .ok (.iload_n 3, 1) := by decide +kernel
theorem dX11_keep_149 : decode cX11_keep 149 = .ok (.invokevirtual 247, 3) := by decide +kernel
theorem dX11_keep_152 : decode cX11_keep 152 = .ok (.iconst 0, 1) := by decide +kernel
theorem dX11_keep_153 : decode cX11_keep 153 = .ok (.istore 4, 2) := by decide +kernel
theorem dX11_keep_155 : decode cX11_keep 155 = .ok (.iload 4, 2) := by decide +kernel
theorem dX11_keep_157 : decode cX11_keep 157 = .ok (.iload_n 3, 1) := by decide +kernel
theorem dX11_keep_158 : decode cX11_keep 158 = .ok (.if_icmp .ge 41, 3) := by decide +kernel
theorem dX11_keep_161 : decode cX11_keep 161 = .ok (.aload_n 0, 1) := by decide +kernel
theorem dX11_keep_162 : decode cX11_keep 162 = .ok (.aload_n 0, 1) := by decide +kernel
theorem dX11_keep_163 : decode cX11_keep 163 = .ok (.getfield 44, 3) := by decide +kernel
theorem dX11_keep_166 : decode cX11_keep 166 = .ok (.bipush 40, 2) := by decide +kernel
theorem dX11_keep_168 : decode cX11_keep 168 = .ok (.iload_n 2, 1) := by decide +kernel
theorem dX11_keep_169 : decode cX11_keep 169 = .ok (.imul, 1) := by decide +kernel
theorem dX11_keep_170 : decode cX11_keep 170 = .ok (.iload 4, 2) := by decide +kernel
theorem dX11_keep_172 : decode cX11_keep 172 = .ok (.iadd, 1) := by decide +kernel
theorem dX11_keep_173 : decode cX11_keep 173 = .ok (.iaload, 1) := by decide +kernel
theorem dX11_keep_174 : decode cX11_keep 174 = .ok (.invokevirtual 247, 3) := by decide +kernel
theorem dX11_keep_177 : decode cX11_keep 177 = .ok (.aload_n 0, 1) := by decide +kernel
theorem dX11_keep_178 : decode cX11_keep 178 = .ok (.aload_n 0, 1) := by decide +kernel
theorem dX11_keep_179 : decode cX11_keep 179 = .ok (.getfield 47, 3) := by decide +kernel
theorem dX11_keep_182 : decode cX11_keep 182 = .ok (.bipush 40, 2) := by decide +kernel
theorem dX11_keep_184 : decode cX11_keep 184 = .ok (.iload_n 2, 1) := by decide +kernel
theorem dX11_keep_185 : decode cX11_keep 185 = .ok (.imul, 1) := by decide +kernel
theorem dX11_keep_186 : decode cX11_keep 186 = .ok (.iload 4, 2) := by decide +kernel
theorem dX11_keep_188 : decode cX11_keep 188 = .ok (.iadd, 1) := by decide +kernel
theorem dX11_keep_189 : decode cX11_keep 189 = .ok (.iaload, 1) := by decide +kernel
theorem dX11_keep_190 : decode cX11_keep 190 = .ok (.invokevirtual 247, 3) := by decide +kernel
theorem dX11_keep_193 : decode cX11_keep 193 = .ok (.iinc 4 1, 3) := by decide +kernel
theorem dX11_keep_196 : decode cX11_keep 196 = .ok (.goto (-41), 3) := by decide +kernel
theorem dX11_keep_199 : decode cX11_keep 199 = .ok (.iinc 2 1, 3) := by decide +kernel
theorem dX11_keep_202 : decode cX11_keep 202 = .ok (.goto (-182), 3) := by decide +kernel
theorem dX11_keep_205 : decode cX11_keep 205 = .ok (.aload_n 0, 1) := by decide +kernel
theorem dX11_keep_206 : decode cX11_keep 206 = .ok (.getfield 71, 3) := by decide +kernel
theorem dX11_keep_209 : decode cX11_keep 209 = .ok (.iload_n 1, 1) := by decide +kernel
theorem dX11_keep_210 : decode cX11_keep 210 = .ok (.iconst 1, 1) := by decide +kernel
theorem dX11_keep_211 : decode cX11_keep 211 = .ok (.iadd, 1) := by decide +kernel
theorem dX11_keep_212 : decode cX11_keep 212 = .ok (.aload_n 0, 1) := by decide +kernel
theorem dX11_keep_213 : decode cX11_keep 213 = .ok (.getfield 244, 3) := by decide +kernel
theorem dX11_keep_216 : decode cX11_keep 216 = .ok (.iastore, 1) := by decide +kernel
theorem dX11_keep_217 : decode cX11_keep 217 = .ok (.return_, 1) := by decide +kernel
theorem dX11_next_0 : decode cX11_next 0 = .ok (.aload_n 0, 1) := by decide +kernel
theorem dX11_next_1 : decode cX11_next 1 = .ok (.dup, 1) := by decide +kernel
theorem dX11_next_2 : decode cX11_next 2 = .ok (.getfield 250, 3) := by decide +kernel
theorem dX11_next_5 : decode cX11_next 5 = .ok (.iconst 1, 1) := by decide +kernel
theorem dX11_next_6 : decode cX11_next 6 = .ok (.iadd, 1) := by decide +kernel
theorem dX11_next_7 : decode cX11_next 7 = .ok (.putfield 250, 3) := by decide +kernel
theorem dX11_next_10 : decode cX11_next 10 = .ok (.aload_n 0, 1) := by decide +kernel
theorem dX11_next_11 : decode cX11_next 11 = .ok (.getfield 74, 3) := by decide +kernel
theorem dX11_next_14 : decode cX11_next 14 = .ok (.aload_n 0, 1) := by decide +kernel
theorem dX11_next_15 : decode cX11_next 15 = .ok (.getfield 250, 3) := by decide +kernel
theorem dX11_next_18 : decode cX11_next 18 = .ok (.iconst 1, 1) := by decide +kernel
theorem dX11_next_19 : decode cX11_next 19 = .ok (.isub, 1) := by decide +kernel
theorem dX11_next_20 : decode cX11_next 20 = .ok (.iaload, 1) := by decide +kernel
theorem dX11_next_21 : decode cX11_next 21 = .ok (.ireturn, 1) := by decide +kernel
theorem dX11_restore_0 : decode cX11_restore 0 = .ok (.aload_n 0, 1) := by decide +kernel
theorem dX11_restore_1 : decode cX11_restore 1 = .ok (.aload_n 0, 1) := by decide +kernel
theorem dX11_restore_2 : decode cX11_restore 2 = .ok (.getfield 71, 3) := by decide +kernel
theorem dX11_restore_5 : decode cX11_restore 5 = .ok (.iload_n 1, 1) := by decide +kernel
theorem dX11_restore_6 : decode cX11_restore 6 = .ok (.iaload, 1) := by decide +kernel
theorem dX11_restore_7 : decode cX11_restore 7 = .ok (.putfield 250, 3) := by decide +kernel
theorem dX11_restore_10 : decode cX11_restore 10 = .ok (.aload_n 0, 1) := by decide +kernel
theorem dX11_restore_11 : decode cX11_restore 11 = .ok (.aload_n 0, 1) := by decide +kernel
theorem dX11_restore_12 : decode cX11_restore 12 = .ok (.invokevirtual 253, 3) := by decide +kernel
theorem dX11_restore_15 : decode cX11_restore 15 = .ok (.putfield 130, 3) := by decide +kernel
theorem dX11_restore_18 : decode cX11_restore 18 = .ok (.iconst 0, 1) := by decide +kernel
theorem dX11_restore_19 : decode cX11_restore 19 = .ok (.istore_n 2, 1) := by decide +kernel
theorem dX11_restore_20 : decode cX11_restore 20 = .ok (.iload_n 2, 1) := by decide +kernel
theorem dX11_restore_21 : decode cX11_restore 21 = .ok (.aload_n 0, 1) := by decide +kernel
theorem dX11_restore_22 : decode cX11_restore 22 = .ok (.getfield 130, 3) := by decide +kernel
theorem dX11_restore_25 : decode cX11_restore 25 = .ok (.if_icmp .ge 176, 3) := by decide +kernel
theorem dX11_restore_28 : decode cX11_restore 28 = .ok (.aload_n 0, 1) := by decide +kernel
theorem dX11_restore_29 : decode cX11_restore 29 = .ok (.getfield 7, 3) := by decide +kernel
theorem dX11_restore_32 : decode cX11_restore 32 = .ok (.iload_n 2, 1) := by decide +kernel
theorem dX11_restore_33 : decode cX11_restore 33 = .ok (.aload_n 0, 1) := by decide +kernel
theorem dX11_restore_34 : decode cX11_restore 34 = .ok (.invokevirtual 253, 3) := by decide +kernel
theorem dX11_restore_37 : decode cX11_restore 37 = .ok (.iastore, 1) := by decide +kernel
theorem dX11_restore_38 : decode cX11_restore 38 = .ok (.aload_n 0, 1) := by decide +kernel
theorem dX11_restore_39 : decode cX11_restore 39 = .ok (.getfield 22, 3) := by decide +kernel
theorem dX11_restore_42 : decode cX11_restore 42 = .ok (.iload_n 2, 1) := by decide +kernel
theorem dX11_restore_43 : decode cX11_restore 43 = .ok (.aload_n 0, 1) := by decide +kernel
theorem dX11_restore_44 : decode cX11_restore 44 = .ok (.invokevirtual 253, 3) := by decide +kernel
theorem dX11_restore_47 : decode cX11_restore 47 = .ok (.iastore, 1) := by decide +kernel
theorem dX11_restore_48 : decode cX11_restore 48 = .ok (.aload_n 0, 1) := by decide +kernel
theorem dX11_restore_49 : decode cX11_restore 49 = .ok (.getfield 29, 3) := by decide +kernel
theorem dX11_restore_52 : decode cX11_restore 52 = .ok (.iload_n 2, 1) := by decide +kernel
theorem dX11_restore_53 : decode cX11_restore 53 = .ok (.aload_n 0, 1) := by decide +kernel
theorem dX11_restore_54 : decode cX11_restore 54 = .ok (.invokevirtual 253, 3) := by decide +kernel
theorem dX11_restore_57 : decode cX11_restore 57 = .ok (.iastore, 1) := by decide +kernel
theorem dX11_restore_58 : decode cX11_restore 58 = .ok (.aload_n 0, 1) := by decide +kernel
theorem dX11_restore_59 : decode cX11_restore 59 = .ok (.getfield 38, 3) := by decide +kernel
theorem dX11_restore_62 : decode cX11_restore 62 = .ok (.iload_n 2, 1) := by decide +kernel
theorem dX11_restore_63 : decode cX11_restore 63 = .ok (.aload_n 0, 1) := by decide +kernel
theorem dX11_restore_64 : decode cX11_restore 64 = .ok (.invokevirtual 253, 3) := by decide +kernel
theorem dX11_restore_67 : decode cX11_restore 67 = .ok (.iastore, 1) := by decide +kernel
theorem dX11_restore_68 : decode cX11_restore 68 = .ok (.aload_n 0, 1) := by decide +kernel
theorem dX11_restore_69 : decode cX11_restore 69 = .ok (.getfield 32, 3) := by decide +kernel
theorem dX11_restore_72 : decode cX11_restore 72 = .ok (.iload_n 2, 1) := by decide +kernel
theorem dX11_restore_73 : decode cX11_restore 73 = .ok (.aload_n 0, 1) := by decide +kernel
theorem dX11_restore_74 : decode cX11_restore 74 = .ok (.invokevirtual 253, 3) := by decide +kernel
theorem dX11_restore_77 : decode cX11_restore 77 = .ok (.iastore, 1) := by decide +kernel
theorem dX11_restore_78 : decode cX11_restore 78 = .ok (.aload_n 0, 1) := by decide +kernel
theorem dX11_restore_79 : decode cX11_restore 79 = .ok (.getfield 35, 3) := by decide +kernel
theorem dX11_restore_82 : decode cX11_restore 82 = .ok (.iload_n 2, 1) := by decide +kernel
theorem dX11_restore_83 : decode cX11_restore 83 = .ok (.aload_n 0, 1) := by decide +kernel
theorem dX11_restore_84 : decode cX11_restore 84 = .ok (.invokevirtual 253, 3) := by decide +kernel
theorem dX11_restore_87 : decode cX11_restore 87 = .ok (.iastore, 1) := by decide +kernel
theorem dX11_restore_88 : decode cX11_restore 88 = .ok (.aload_n 0, 1) := by decide +kernel
theorem dX11_restore_89 : decode cX11_restore 89 = .ok (.getfield 13, 3) := by decide +kernel
theorem dX11_restore_92 : decode cX11_restore 92 = .ok (.iload_n 2, 1) := by decide +kernel
theorem dX11_restore_93 : decode cX11_restore 93 = .ok (.aload_n 0, 1) := by decide +kernel
theorem dX11_restore_94 : decode cX11_restore 94 = .ok (.invokevirtual 253, 3) := by decide +kernel
theorem dX11_restore_97 : decode cX11_restore 97 = .ok (.iastore, 1) := by decide +kernel
theorem dX11_restore_98 : decode cX11_restore 98 = .ok (.aload_n 0, 1) := by decide +kernel
theorem dX11_restore_99 : decode cX11_restore 99 = .ok (.getfield 16, 3) := by decide +kernel
theorem dX11_restore_102 : decode cX11_restore 102 = .ok (.iload_n 2, 1) := by decide +kernel
theorem dX11_restore_103 : decode cX11_restore 103 = .ok (.aload_n 0, 1) := by decide +kernel
theorem dX11_restore_104 : decode cX11_restore 104 = .ok (.invokevirtual 253, 3) := by decide +kernel
theorem dX11_restore_107 : decode cX11_restore 107 = .ok (.iastore, 1) := by decide +kernel
theorem dX11_restore_108 : decode cX11_restore 108 = .ok (.aload_n 0, 1) := by decide +kernel
theorem dX11_restore_109 : decode cX11_restore 109 = .ok (.getfield 19, 3) := by decide +kernel
theorem dX11_restore_112 : decode cX11_restore 112 = .ok (.iload_n 2, 1) := by decide +kernel
theorem dX11_restore_113 : decode cX11_restore 113 = .ok (.aload_n 0, 1) := by decide +kernel
theorem dX11_restore_114 : decode cX11_restore 114 = .ok (.invokevirtual 253, 3) := by decide +kernel
theorem dX11_restore_117 : decode cX11_restore 117 = .ok (.iastore, 1) := by decide +kernel
theorem dX11_restore_118 : decode cX11_restore 118 = .ok (.aload_n 0, 1) := by decide +kernel
theorem dX11_restore_119 : decode cX11_restore 119 = .ok (.invokevirtual 253, 3) := by decide +kernel
theorem dX11_restore_122 : decode cX11_restore 122 = .ok (.istore_n 3, 1) := by decide +kernel
theorem dX11_restore_123 : decode cX11_restore 123 = .ok (.aload_n 0, 1) := by decide +kernel
theorem dX11_restore_124 : decode cX11_restore 124 = .ok (.getfield 22, 3) := by decide +kernel
theorem dX11_restore_127 : decode cX11_restore 127 = .ok (.iload_n 2, 1) := by decide +kernel
theorem dX11_restore_128 : decode cX11_restore 128 = .ok (.iaload, 1) := by decide +kernel
theorem dX11_restore_129 : decode cX11_restore 129 = .ok (.ifCond .eq 19, 3) := by decide +kernel
theorem dX11_restore_132 : decode cX11_restore 132 = .ok (.aload_n 0, 1) := by decide +kernel
theorem dX11_restore_133 : decode cX11_restore 133 = .ok (.getfield 25, 3) := by decide +kernel
theorem dX11_restore_136 : decode cX11_restore 136 = .ok (.iload_n 2, 1) := by decide +kernel
theorem dX11_restore_137 : decode cX11_restore 137 = .ok (.baload, 1) := by decide +kernel
theorem dX11_restore_138 : decode cX11_restore 138 = .ok (.ifCond .ne 10, 3) := by decide +kernel
theorem dX11_restore_141 : decode cX11_restore 141 = .ok (.aload_n 0, 1) := by decide +kernel
theorem dX11_restore_142 : decode cX11_restore 142 = .ok (.getfield 41, 3) := by decide +kernel
theorem dX11_restore_145 : decode cX11_restore 145 = .ok (.iload_n 2, 1) := by decide +kernel
theorem dX11_restore_146 : decode cX11_restore 146 = .ok (.iload_n 3, 1) := by decide +kernel
theorem dX11_restore_147 : decode cX11_restore 147 = .ok (.iastore, 1) := by decide +kernel
theorem dX11_restore_148 : decode cX11_restore 148 = .ok (.iconst 0, 1) := by decide +kernel
theorem dX11_restore_149 : decode cX11_restore 149 = .ok (.istore 4, 2) := by decide +kernel
theorem dX11_restore_151 : decode cX11_restore 151 = .ok (.iload 4, 2) := by decide +kernel
theorem dX11_restore_153 : decode cX11_restore 153 = .ok (.iload_n 3, 1) := by decide +kernel
theorem dX11_restore_154 : decode cX11_restore 154 = .ok (.if_icmp .ge 41, 3) := by decide +kernel
theorem dX11_restore_157 : decode cX11_restore 157 = .ok (.aload_n 0, 1) := by decide +kernel
theorem dX11_restore_158 : decode cX11_restore 158 = .ok (.getfield 44, 3) := by decide +kernel
theorem dX11_restore_161 : decode cX11_restore 161 = .ok (.bipush 40, 2) := by decide +kernel
theorem dX11_restore_163 : decode cX11_restore 163 = .ok (.iload_n 2, 1) := by decide +kernel
theorem dX11_restore_164 : decode cX11_restore 164 = .ok (.imul, 1) := by decide +kernel
theorem dX11_restore_165 : decode cX11_restore 165 = .ok (.iload 4, 2) := by decide +kernel
theorem dX11_restore_167 : decode cX11_restore 167 = .ok (.iadd, 1) := by decide +kernel
theorem dX11_restore_168 : decode cX11_restore 168 = .ok (.aload_n 0, 1) := by decide +kernel
theorem dX11_restore_169 : decode cX11_restore 169 = .ok (.invokevirtual 253, 3) := by decide +kernel
theorem dX11_restore_172 : decode cX11_restore 172 = .ok (.iastore, 1) := by decide +kernel
theorem dX11_restore_173 : decode cX11_restore 173 = .ok (.aload_n 0, 1) := by decide +kernel
theorem dX11_restore_174 : decode cX11_restore 174 = .ok (.getfield 47, 3) := by decide +kernel
theorem dX11_restore_177 : decode cX11_restore 177 = .ok (.bipush 40, 2) := by decide +kernel
theorem dX11_restore_179 : decode cX11_restore 179 = .ok (.iload_n 2, 1) := by decide +kernel
theorem dX11_restore_180 : decode cX11_restore 180 = .ok (.imul, 1) := by decide +kernel
theorem dX11_restore_181 : decode cX11_restore 181 = .ok (.iload 4, 2) := by decide +kernel
theorem dX11_restore_183 : decode cX11_restore 183 = .ok (.iadd, 1) := by decide +kernel
theorem dX11_restore_184 : decode cX11_restore 184 = .ok (.aload_n 0, 1) := by decide +kernel
theorem dX11_restore_185 : decode cX11_restore 185 = .ok (.invokevirtual 253, 3) := by decide +kernel
theorem dX11_restore_188 : decode cX11_restore 188 = .ok (.iastore, 1) := by decide +kernel
theorem dX11_restore_189 : decode cX11_restore 189 = .ok (.iinc 4 1, 3) := by decide +kernel
theorem dX11_restore_192 : decode cX11_restore 192 = .ok (.goto (-41), 3) := by decide +kernel
theorem dX11_restore_195 : decode cX11_restore 195 = .ok (.iinc 2 1, 3) := by decide +kernel
theorem dX11_restore_198 : decode cX11_restore 198 = .ok (.goto (-178), 3) := by decide +kernel
theorem dX11_restore_201 : decode cX11_restore 201 = .ok (.return_, 1) := by decide +kernel
theorem dX11_settle_0 : decode cX11_settle 0 = .ok (.aload_n 0, 1) := by decide +kernel
theorem dX11_settle_1 : decode cX11_settle 1 = .ok (.aload_n 0, 1) := by decide +kernel
theorem dX11_settle_2 : decode cX11_settle 2 = .ok (.getfield 257, 3) := by decide +kernel
theorem dX11_settle_5 : decode cX11_settle 5 = .ok (.putfield 260, 3) := by decide +kernel
theorem dX11_settle_8 : decode cX11_settle 8 = .ok (.aload_n 0, 1) := by decide +kernel
theorem dX11_settle_9 : decode cX11_settle 9 = .ok (.iconst 0, 1) := by decide +kernel
theorem dX11_settle_10 : decode cX11_settle 10 = .ok (.putfield 263, 3) := by decide +kernel
theorem dX11_settle_13 : decode cX11_settle 13 = .ok (.aload_n 0, 1) := by decide +kernel
theorem dX11_settle_14 : decode cX11_settle 14 = .ok (.getfield 71, 3) := by decide +kernel
theorem dX11_settle_17 : decode cX11_settle 17 = .ok (.iconst 0, 1) := by decide +kernel
theorem dX11_settle_18 : decode cX11_settle 18 = .ok (.iconst 0, 1) := by decide +kernel
theorem dX11_settle_19 : decode cX11_settle 19 = .ok (.iastore, 1) := by decide +kernel
theorem dX11_settle_20 : decode cX11_settle 20 = .ok (.return_, 1) := by decide +kernel
theorem dX11_begins_0 : decode cX11_begins 0 = .ok (.aload_n 0, 1) := by decide +kernel
theorem dX11_begins_1 : decode cX11_begins 1 = .ok (.aload_n 0, 1) := by decide +kernel
theorem dX11_begins_2 : decode cX11_begins 2 = .ok (.getfield 257, 3) := by decide +kernel
theorem dX11_begins_5 : decode cX11_begins 5 = .ok (.aload_n 0, 1) := by decide +kernel
theorem dX11_begins_6 : decode cX11_begins 6 = .ok (.getfield 260, 3) := by decide +kernel
theorem dX11_begins_9 : decode cX11_begins 9 = .ok (.isub, 1) := by decide +kernel
theorem dX11_begins_10 : decode cX11_begins 10 = .ok (.invokevirtual 266, 3) := by decide +kernel
theorem dX11_begins_13 : decode cX11_begins 13 = .ok (.return_, 1) := by decide +kernel
theorem dX11_ends_0 : decode cX11_ends 0 = .ok (.aload_n 0, 1) := by decide +kernel
theorem dX11_ends_1 : decode cX11_ends 1 = .ok (.dup, 1) := by decide +kernel
theorem dX11_ends_2 : decode cX11_ends 2 = .ok (.getfield 257, 3) := by decide +kernel
theorem dX11_ends_5 : decode cX11_ends 5 = .ok (.iconst 1, 1) := by decide +kernel
theorem dX11_ends_6 : decode cX11_ends 6 = .ok (.iadd, 1) := by decide +kernel
theorem dX11_ends_7 : decode cX11_ends 7 = .ok (.putfield 257, 3) := by decide +kernel
theorem dX11_ends_10 : decode cX11_ends 10 = .ok (.aload_n 0, 1) := by decide +kernel
theorem dX11_ends_11 : decode cX11_ends 11 = .ok (.iconst 0, 1) := by decide +kernel
theorem dX11_ends_12 : decode cX11_ends 12 = .ok (.putfield 263, 3) := by decide +kernel
theorem dX11_ends_15 : decode cX11_ends 15 = .ok (.aload_n 0, 1) := by decide +kernel
theorem dX11_ends_16 : decode cX11_ends 16 = .ok (.getfield 50, 3) := by decide +kernel
theorem dX11_ends_19 : decode cX11_ends 19 = .ok (.aload_n 0, 1) := by decide +kernel
theorem dX11_ends_20 : decode cX11_ends 20 = .ok (.getfield 257, 3) := by decide +kernel
theorem dX11_ends_23 : decode cX11_ends 23 = .ok (.iload_n 1, 1) := by decide +kernel
theorem dX11_ends_24 : decode cX11_ends 24 = .ok (.iastore, 1) := by decide +kernel
theorem dX11_ends_25 : decode cX11_ends 25 = .ok (.aload_n 0, 1) := by decide +kernel
theorem dX11_ends_26 : decode cX11_ends 26 = .ok (.getfield 53, 3) := by decide +kernel
theorem dX11_ends_29 : decode cX11_ends 29 = .ok (.aload_n 0, 1) := by decide +kernel
theorem dX11_ends_30 : decode cX11_ends 30 = .ok (.getfield 257, 3) := by decide +kernel
theorem dX11_ends_33 : decode cX11_ends 33 = .ok (.iload_n 2, 1) := by decide +kernel
theorem dX11_ends_34 : decode cX11_ends 34 = .ok (.iastore, 1) := by decide +kernel
theorem dX11_ends_35 : decode cX11_ends 35 = .ok (.aload_n 0, 1) := by decide +kernel
theorem dX11_ends_36 : decode cX11_ends 36 = .ok (.getfield 56, 3) := by decide +kernel
theorem dX11_ends_39 : decode cX11_ends 39 = .ok (.aload_n 0, 1) := by decide +kernel
theorem dX11_ends_40 : decode cX11_ends 40 = .ok (.getfield 257, 3) := by decide +kernel
theorem dX11_ends_43 : decode cX11_ends 43 = .ok (.iload_n 3, 1) := by decide +kernel
theorem dX11_ends_44 : decode cX11_ends 44 = .ok (.iastore, 1) := by decide +kernel
theorem dX11_ends_45 : decode cX11_ends 45 = .ok (.aload_n 0, 1) := by decide +kernel
theorem dX11_ends_46 : decode cX11_ends 46 = .ok (.aload_n 0, 1) := by decide +kernel
theorem dX11_ends_47 : decode cX11_ends 47 = .ok (.getfield 257, 3) := by decide +kernel
theorem dX11_ends_50 : decode cX11_ends 50 = .ok (.aload_n 0, 1) := by decide +kernel
theorem dX11_ends_51 : decode cX11_ends 51 = .ok (.getfield 260, 3) := by decide +kernel
theorem dX11_ends_54 : decode cX11_ends 54 = .ok (.isub, 1) := by decide +kernel
theorem dX11_ends_55 : decode cX11_ends 55 = .ok (.invokevirtual 266, 3) := by decide +kernel
theorem dX11_ends_58 : decode cX11_ends 58 = .ok (.aload_n 0, 1) := by decide +kernel
theorem dX11_ends_59 : decode cX11_ends 59 = .ok (.iconst 0, 1) := by decide +kernel
theorem dX11_ends_60 : decode cX11_ends 60 = .ok (.putfield 119, 3) := by decide +kernel
theorem dX11_ends_63 : decode cX11_ends 63 = .ok (.aload_n 0, 1) := by decide +kernel
theorem dX11_ends_64 : decode cX11_ends 64 = .ok (.getfield 257, 3) := by decide +kernel
theorem dX11_ends_67 : decode cX11_ends 67 = .ok (.ireturn, 1) := by decide +kernel
theorem dX11_feature_0 : decode cX11_feature 0 = .ok (.iload_n 1, 1) := by decide +kernel
theorem dX11_feature_1 : decode cX11_feature 1 = .ok (.ifCond .lt 41, 3) := by decide +kernel
theorem dX11_feature_4 : decode cX11_feature 4 = .ok (.iload_n 1, 1) := by decide +kernel
theorem dX11_feature_5 : decode cX11_feature 5 = .ok (.bipush 6, 2) := by decide +kernel
theorem dX11_feature_7 : decode cX11_feature 7 = .ok (.if_icmp .gt 35, 3) := by decide +kernel
theorem dX11_feature_10 : decode cX11_feature 10 = .ok (.iload_n 2, 1) := by decide +kernel
theorem dX11_feature_11 : decode cX11_feature 11 = .ok (.ifCond .lt 31, 3) := by decide +kernel
theorem dX11_feature_14 : decode cX11_feature 14 = .ok (.iload_n 2, 1) := by decide +kernel
theorem dX11_feature_15 : decode cX11_feature 15 = .ok (.bipush 9, 2) := by decide +kernel
theorem dX11_feature_17 : decode cX11_feature 17 = .ok (.if_icmp .gt 25, 3) := by decide +kernel
theorem dX11_feature_20 : decode cX11_feature 20 = .ok (.iload_n 3, 1) := by decide +kernel
theorem dX11_feature_21 : decode cX11_feature 21 = .ok (.ifCond .lt 21, 3) := by decide +kernel
theorem dX11_feature_24 : decode cX11_feature 24 = .ok (.iload_n 3, 1) := by decide +kernel
theorem dX11_feature_25 : decode cX11_feature 25 = .ok (.bipush 100, 2) := by decide +kernel
theorem dX11_feature_27 : decode cX11_feature 27 = .ok (.if_icmp .gt 15, 3) := by decide +kernel
theorem dX11_feature_30 : decode cX11_feature 30 = .ok (.iload 4, 2) := by decide +kernel
theorem dX11_feature_32 : decode cX11_feature 32 = .ok (.ifCond .lt 10, 3) := by decide +kernel
theorem dX11_feature_35 : decode cX11_feature 35 = .ok (.iload 4, 2) := by decide +kernel
theorem dX11_feature_37 : decode cX11_feature 37 = .ok (.bipush 9, 2) := by decide +kernel
theorem dX11_feature_39 : decode cX11_feature 39 = .ok (.if_icmp .le 9, 3) := by decide +kernel
theorem dX11_feature_42 : decode cX11_feature 42 = .ok (.aload_n 0, 1) := by decide +kernel
theorem dX11_feature_43 : decode cX11_feature 43 = .ok (.iconst 4, 1) := by decide +kernel
theorem dX11_feature_44 : decode cX11_feature 44 = .ok (.invokevirtual 126, 3) := by decide +kernel
theorem dX11_feature_47 : decode cX11_feature 47 = .ok (.ireturn, 1) := by decide +kernel
theorem dX11_feature_48 : decode cX11_feature 48 = .ok (.aload_n 0, 1) := by decide +kernel
theorem dX11_feature_49 : decode cX11_feature 49 = .ok (.getfield 130, 3) := by decide +kernel
theorem dX11_feature_52 : decode cX11_feature 52 = .ok (.sipush 200, 3) := by decide +kernel
theorem dX11_feature_55 : decode cX11_feature 55 = .ok (.if_icmp .ne 10, 3) := by decide +kernel
theorem dX11_feature_58 : decode cX11_feature 58 = .ok (.aload_n 0, 1) := by decide +kernel
theorem dX11_feature_59 : decode cX11_feature 59 = .ok (.bipush 8, 2) := by decide +kernel
theorem dX11_feature_61 : decode cX11_feature 61 = .ok (.invokevirtual 126, 3) := by decide +kernel
theorem dX11_feature_64 : decode cX11_feature 64 = .ok (.ireturn, 1) := by decide +kernel
theorem dX11_feature_65 : decode cX11_feature 65 = .ok (.aload_n 0, 1) := by decide +kernel
theorem dX11_feature_66 : decode cX11_feature 66 = .ok (.getfield 130, 3) := by decide +kernel
theorem dX11_feature_69 : decode cX11_feature 69 = .ok (.istore 5, 2) := by decide +kernel
theorem dX11_feature_71 : decode cX11_feature 71 = .ok (.aload_n 0, 1) := by decide +kernel
theorem dX11_feature_72 : decode cX11_feature 72 = .ok (.iload 5, 2) := by decide +kernel
theorem dX11_feature_74 : decode cX11_feature 74 = .ok (.iload_n 1, 1) := by decide +kernel
theorem dX11_feature_75 : decode cX11_feature 75 = .ok (.iload_n 2, 1) := by decide +kernel
theorem dX11_feature_76 : decode cX11_feature 76 = .ok (.iload_n 3, 1) := by decide +kernel
theorem dX11_feature_77 : decode cX11_feature 77 = .ok (.iload 4, 2) := by decide +kernel
theorem dX11_feature_79 : decode cX11_feature 79 = .ok (.invokevirtual 269, 3) := by decide +kernel
theorem dX11_feature_82 : decode cX11_feature 82 = .ok (.aload_n 0, 1) := by decide +kernel
theorem dX11_feature_83 : decode cX11_feature 83 = .ok (.invokevirtual 273, 3) := by decide +kernel
theorem dX11_feature_86 : decode cX11_feature 86 = .ok (.aload_n 0, 1) := by decide +kernel
theorem dX11_feature_87 : decode cX11_feature 87 = .ok (.iconst 0, 1) := by decide +kernel
theorem dX11_feature_88 : decode cX11_feature 88 = .ok (.putfield 119, 3) := by decide +kernel
theorem dX11_feature_91 : decode cX11_feature 91 = .ok (.iload 5, 2) := by decide +kernel
theorem dX11_feature_93 : decode cX11_feature 93 = .ok (.ireturn, 1) := by decide +kernel
theorem dX11_begin_0 : decode cX11_begin 0 = .ok (.aload_n 0, 1) := by decide +kernel
theorem dX11_begin_1 : decode cX11_begin 1 = .ok (.iload_n 1, 1) := by decide +kernel
theorem dX11_begin_2 : decode cX11_begin 2 = .ok (.iconst 1, 1) := by decide +kernel
theorem dX11_begin_3 : decode cX11_begin 3 = .ok (.iadd, 1) := by decide +kernel
theorem dX11_begin_4 : decode cX11_begin 4 = .ok (.putfield 130, 3) := by decide +kernel
theorem dX11_begin_7 : decode cX11_begin 7 = .ok (.aload_n 0, 1) := by decide +kernel
theorem dX11_begin_8 : decode cX11_begin 8 = .ok (.getfield 7, 3) := by decide +kernel
theorem dX11_begin_11 : decode cX11_begin 11 = .ok (.iload_n 1, 1) := by decide +kernel
theorem dX11_begin_12 : decode cX11_begin 12 = .ok (.iload_n 2, 1) := by decide +kernel
theorem dX11_begin_13 : decode cX11_begin 13 = .ok (.iastore, 1) := by decide +kernel
theorem dX11_begin_14 : decode cX11_begin 14 = .ok (.aload_n 0, 1) := by decide +kernel
theorem dX11_begin_15 : decode cX11_begin 15 = .ok (.getfield 13, 3) := by decide +kernel
theorem dX11_begin_18 : decode cX11_begin 18 = .ok (.iload_n 1, 1) := by decide +kernel
theorem dX11_begin_19 : decode cX11_begin 19 = .ok (.iload_n 3, 1) := by decide +kernel
theorem dX11_begin_20 : decode cX11_begin 20 = .ok (.iastore, 1) := by decide +kernel
theorem dX11_begin_21 : decode cX11_begin 21 = .ok (.aload_n 0, 1) := by decide +kernel
theorem dX11_begin_22 : decode cX11_begin 22 = .ok (.getfield 16, 3) := by decide +kernel
theorem dX11_begin_25 : decode cX11_begin 25 = .ok (.iload_n 1, 1) := by decide +kernel
theorem dX11_begin_26 : decode cX11_begin 26 = .ok (.iload 4, 2) := by decide +kernel
theorem dX11_begin_28 : decode cX11_begin 28 = .ok (.iastore, 1) := by decide +kernel
theorem dX11_begin_29 : decode cX11_begin 29 = .ok (.aload_n 0, 1) := by decide +kernel
theorem dX11_begin_30 : decode cX11_begin 30 = .ok (.getfield 19, 3) := by decide +kernel
theorem dX11_begin_33 : decode cX11_begin 33 = .ok (.iload_n 1, 1) := by decide +kernel
theorem dX11_begin_34 : decode cX11_begin 34 = .ok (.iload 5, 2) := by decide +kernel
theorem dX11_begin_36 : decode cX11_begin 36 = .ok (.iastore, 1) := by decide +kernel
theorem dX11_begin_37 : decode cX11_begin 37 = .ok (.aload_n 0, 1) := by decide +kernel
theorem dX11_begin_38 : decode cX11_begin 38 = .ok (.getfield 22, 3) := by decide +kernel
theorem dX11_begin_41 : decode cX11_begin 41 = .ok (.iload_n 1, 1) := by decide +kernel
theorem dX11_begin_42 : decode cX11_begin 42 = .ok (.iconst 0, 1) := by decide +kernel
theorem dX11_begin_43 : decode cX11_begin 43 = .ok (.iastore, 1) := by decide +kernel
theorem dX11_begin_44 : decode cX11_begin 44 = .ok (.aload_n 0, 1) := by decide +kernel
theorem dX11_begin_45 : decode cX11_begin 45 = .ok (.getfield 25, 3) := by decide +kernel
theorem dX11_begin_48 : decode cX11_begin 48 = .ok (.iload_n 1, 1) := by decide +kernel
theorem dX11_begin_49 : decode cX11_begin 49 = .ok (.iconst 0, 1) := by decide +kernel
theorem dX11_begin_50 : decode cX11_begin 50 = .ok (.bastore, 1) := by decide +kernel
theorem dX11_begin_51 : decode cX11_begin 51 = .ok (.aload_n 0, 1) := by decide +kernel
theorem dX11_begin_52 : decode cX11_begin 52 = .ok (.getfield 29, 3) := by decide +kernel
theorem dX11_begin_55 : decode cX11_begin 55 = .ok (.iload_n 1, 1) := by decide +kernel
theorem dX11_begin_56 : decode cX11_begin 56 = .ok (.iconst 0, 1) := by decide +kernel
theorem dX11_begin_57 : decode cX11_begin 57 = .ok (.iastore, 1) := by decide +kernel
theorem dX11_begin_58 : decode cX11_begin 58 = .ok (.aload_n 0, 1) := by decide +kernel
theorem dX11_begin_59 : decode cX11_begin 59 = .ok (.getfield 32, 3) := by decide +kernel
theorem dX11_begin_62 : decode cX11_begin 62 = .ok (.iload_n 1, 1) := by decide +kernel
theorem dX11_begin_63 : decode cX11_begin 63 = .ok (.iconst (-1), 1) := by decide +kernel
theorem dX11_begin_64 : decode cX11_begin 64 = .ok (.iastore, 1) := by decide +kernel
theorem dX11_begin_65 : decode cX11_begin 65 = .ok (.aload_n 0, 1) := by decide +kernel
theorem dX11_begin_66 : decode cX11_begin 66 = .ok (.getfield 35, 3) := by decide +kernel
theorem dX11_begin_69 : decode cX11_begin 69 = .ok (.iload_n 1, 1) := by decide +kernel
theorem dX11_begin_70 : decode cX11_begin 70 = .ok (.iconst (-1), 1) := by decide +kernel
theorem dX11_begin_71 : decode cX11_begin 71 = .ok (.iastore, 1) := by decide +kernel
theorem dX11_begin_72 : decode cX11_begin 72 = .ok (.aload_n 0, 1) := by decide +kernel
theorem dX11_begin_73 : decode cX11_begin 73 = .ok (.getfield 38, 3) := by decide +kernel
theorem dX11_begin_76 : decode cX11_begin 76 = .ok (.iload_n 1, 1) := by decide +kernel
theorem dX11_begin_77 : decode cX11_begin 77 = .ok (.iconst (-1), 1) := by decide +kernel
theorem dX11_begin_78 : decode cX11_begin 78 = .ok (.iastore, 1) := by decide +kernel
theorem dX11_begin_79 : decode cX11_begin 79 = .ok (.aload_n 0, 1) := by decide +kernel
theorem dX11_begin_80 : decode cX11_begin 80 = .ok (.getfield 41, 3) := by decide +kernel
theorem dX11_begin_83 : decode cX11_begin 83 = .ok (.iload_n 1, 1) := by decide +kernel
theorem dX11_begin_84 : decode cX11_begin 84 = .ok (.iconst 0, 1) := by decide +kernel
theorem dX11_begin_85 : decode cX11_begin 85 = .ok (.iastore, 1) := by decide +kernel
theorem dX11_begin_86 : decode cX11_begin 86 = .ok (.return_, 1) := by decide +kernel
theorem dX11_corner_0 : decode cX11_corner 0 = .ok (.aload_n 0, 1) := by decide +kernel
theorem dX11_corner_1 : decode cX11_corner 1 = .ok (.iload_n 1, 1) := by decide +kernel
theorem dX11_corner_2 : decode cX11_corner 2 = .ok (.invokevirtual 133, 3) := by decide +kernel
theorem dX11_corner_5 : decode cX11_corner 5 = .ok (.ifCond .ne 9, 3) := by decide +kernel
theorem dX11_corner_8 : decode cX11_corner 8 = .ok (.aload_n 0, 1) := by decide +kernel
theorem dX11_corner_9 : decode cX11_corner 9 = .ok (.iconst 1, 1) := by decide +kernel
theorem dX11_corner_10 : decode cX11_corner 10 = .ok (.invokevirtual 126, 3) := by decide +kernel
theorem dX11_corner_13 : decode cX11_corner 13 = .ok (.ireturn, 1) := by decide +kernel
theorem dX11_corner_14 : decode cX11_corner 14 = .ok (.aload_n 0, 1) := by decide +kernel
theorem dX11_corner_15 : decode cX11_corner 15 = .ok (.getfield 22, 3) := by decide +kernel
theorem dX11_corner_18 : decode cX11_corner 18 = .ok (.iload_n 1, 1) := by decide +kernel
theorem dX11_corner_19 : decode cX11_corner 19 = .ok (.iaload, 1) := by decide +kernel
theorem dX11_corner_20 : decode cX11_corner 20 = .ok (.ifCond .eq 9, 3) := by decide +kernel
theorem dX11_corner_23 : decode cX11_corner 23 = .ok (.aload_n 0, 1) := by decide +kernel
theorem dX11_corner_24 : decode cX11_corner 24 = .ok (.iconst 2, 1) := by decide +kernel
theorem dX11_corner_25 : decode cX11_corner 25 = .ok (.invokevirtual 126, 3) := by decide +kernel
theorem dX11_corner_28 : decode cX11_corner 28 = .ok (.ireturn, 1) := by decide +kernel
theorem dX11_corner_29 : decode cX11_corner 29 = .ok (.iload_n 2, 1) := by decide +kernel
theorem dX11_corner_30 : decode cX11_corner 30 = .ok (.ifCond .lt 21, 3) := by decide +kernel
theorem dX11_corner_33 : decode cX11_corner 33 = .ok (.iload_n 2, 1) := by decide +kernel
theorem dX11_corner_34 : decode cX11_corner 34 = .ok (.sipush 1000, 3) := by decide +kernel
theorem dX11_corner_37 : decode cX11_corner 37 = .ok (.if_icmp .gt 14, 3) := by decide +kernel
theorem dX11_corner_40 : decode cX11_corner 40 = .ok (.iload_n 3, 1) := by decide +kernel
theorem dX11_corner_41 : decode cX11_corner 41 = .ok (.ifCond .lt 10, 3) := by decide +kernel
theorem dX11_corner_44 : decode cX11_corner 44 = .ok (.iload_n 3, 1) := by decide +kernel
theorem dX11_corner_45 : decode cX11_corner 45 = .ok (.sipush 1000, 3) := by decide +kernel
theorem dX11_corner_48 : decode cX11_corner 48 = .ok (.if_icmp .le 9, 3) := by decide +kernel
theorem dX11_corner_51 : decode cX11_corner 51 = .ok (.aload_n 0, 1) := by decide +kernel
theorem dX11_corner_52 : decode cX11_corner 52 = .ok (.iconst 4, 1) := by decide +kernel
theorem dX11_corner_53 : decode cX11_corner 53 = .ok (.invokevirtual 126, 3) := by decide +kernel
theorem dX11_corner_56 : decode cX11_corner 56 = .ok (.ireturn, 1) := by decide +kernel
theorem dX11_corner_57 : decode cX11_corner 57 = .ok (.aload_n 0, 1) := by decide +kernel
theorem dX11_corner_58 : decode cX11_corner 58 = .ok (.getfield 25, 3) := by decide +kernel
theorem dX11_corner_61 : decode cX11_corner 61 = .ok (.iload_n 1, 1) := by decide +kernel
theorem dX11_corner_62 : decode cX11_corner 62 = .ok (.baload, 1) := by decide +kernel
theorem dX11_corner_63 : decode cX11_corner 63 = .ok (.ifCond .eq 9, 3) := by decide +kernel
theorem dX11_corner_66 : decode cX11_corner 66 = .ok (.aload_n 0, 1) := by decide +kernel
theorem dX11_corner_67 : decode cX11_corner 67 = .ok (.iconst 5, 1) := by decide +kernel
theorem dX11_corner_68 : decode cX11_corner 68 = .ok (.invokevirtual 126, 3) := by decide +kernel
theorem dX11_corner_71 : decode cX11_corner 71 = .ok (.ireturn, 1) := by decide +kernel
theorem dX11_corner_72 : decode cX11_corner 72 = .ok (.aload_n 0, 1) := by decide +kernel
theorem dX11_corner_73 : decode cX11_corner 73 = .ok (.getfield 41, 3) := by decide +kernel
theorem dX11_corner_76 : decode cX11_corner 76 = .ok (.iload_n 1, 1) := by decide +kernel
theorem dX11_corner_77 : decode cX11_corner 77 = .ok (.iaload, 1) := by decide +kernel
theorem dX11_corner_78 : decode cX11_corner 78 = .ok (.aload_n 0, 1) := by decide +kernel
theorem dX11_corner_79 : decode cX11_corner 79 = .ok (.getfield 7, 3) := by decide +kernel
theorem dX11_corner_82 : decode cX11_corner 82 = .ok (.iload_n 1, 1) := by decide +kernel
theorem dX11_corner_83 : decode cX11_corner 83 = .ok (.iaload, 1) := by decide +kernel
theorem dX11_corner_84 : decode cX11_corner 84 = .ok (.ifCond .ne 7, 3) := by decide +kernel
theorem dX11_corner_87 : decode cX11_corner 87 = .ok (.iconst 1, 1) := by decide +kernel
theorem dX11_corner_88 : decode cX11_corner 88 = .ok (.goto 5, 3) := by decide +kernel
theorem dX11_corner_91 : decode cX11_corner 91 = .ok (.bipush 40, 2) := by decide +kernel
theorem dX11_corner_93 : decode cX11_corner 93 = .ok (.if_icmp .ne 10, 3) := by decide +kernel
theorem dX11_corner_96 : decode cX11_corner 96 = .ok (.aload_n 0, 1) := by decide +kernel
theorem dX11_corner_97 : decode cX11_corner 97 = .ok (.bipush 6, 2) := by decide +kernel
theorem dX11_corner_99 : decode cX11_corner 99 = .ok (.invokevirtual 126, 3) := by decide +kernel
theorem dX11_corner_102 : decode cX11_corner 102 = .ok (.ireturn, 1) := by decide +kernel
theorem dX11_corner_103 : decode cX11_corner 103 = .ok (.aload_n 0, 1) := by decide +kernel
theorem dX11_corner_104 : decode cX11_corner 104 = .ok (.getfield 44, 3) := by decide +kernel
theorem dX11_corner_107 : decode cX11_corner 107 = .ok (.bipush 40, 2) := by decide +kernel
theorem dX11_corner_109 : decode cX11_corner 109 = .ok (.iload_n 1, 1) := by decide +kernel
theorem dX11_corner_110 : decode cX11_corner 110 = .ok (.imul, 1) := by decide +kernel
theorem dX11_corner_111 : decode cX11_corner 111 = .ok (.aload_n 0, 1) := by decide +kernel
theorem dX11_corner_112 : decode cX11_corner 112 = .ok (.getfield 41, 3) := by decide +kernel
theorem dX11_corner_115 : decode cX11_corner 115 = .ok (.iload_n 1, 1) := by decide +kernel
theorem dX11_corner_116 : decode cX11_corner 116 = .ok (.iaload, 1) := by decide +kernel
theorem dX11_corner_117 : decode cX11_corner 117 = .ok (.iadd, 1) := by decide +kernel
theorem dX11_corner_118 : decode cX11_corner 118 = .ok (.iload_n 2, 1) := by decide +kernel
theorem dX11_corner_119 : decode cX11_corner 119 = .ok (.iastore, 1) := by decide +kernel
theorem dX11_corner_120 : decode cX11_corner 120 = .ok (.aload_n 0, 1) := by decide +kernel
theorem dX11_corner_121 : decode cX11_corner 121 = .ok (.getfield 47, 3) := by decide +kernel
theorem dX11_corner_124 : decode cX11_corner 124 = .ok (.bipush 40, 2) := by decide +kernel
theorem dX11_corner_126 : decode cX11_corner 126 = .ok (.iload_n 1, 1) := by decide +kernel
theorem dX11_corner_127 : decode cX11_corner 127 = .ok (.imul, 1) := by decide +kernel
theorem dX11_corner_128 : decode cX11_corner 128 = .ok (.aload_n 0, 1) := by decide +kernel
theorem dX11_corner_129 : decode cX11_corner 129 = .ok (.getfield 41, 3) := by decide +kernel
theorem dX11_corner_132 : decode cX11_corner 132 = .ok (.iload_n 1, 1) := by decide +kernel
theorem dX11_corner_133 : decode cX11_corner 133 = .ok (.iaload, 1) := by decide +kernel
theorem dX11_corner_134 : decode cX11_corner 134 = .ok (.iadd, 1) := by decide +kernel
theorem dX11_corner_135 : decode cX11_corner 135 = .ok (.iload_n 3, 1) := by decide +kernel
theorem dX11_corner_136 : decode cX11_corner 136 = .ok (.iastore, 1) := by decide +kernel
theorem dX11_corner_137 : decode cX11_corner 137 = .ok (.aload_n 0, 1) := by decide +kernel
theorem dX11_corner_138 : decode cX11_corner 138 = .ok (.getfield 41, 3) := by decide +kernel
theorem dX11_corner_141 : decode cX11_corner 141 = .ok (.iload_n 1, 1) := by decide +kernel
theorem dX11_corner_142 : decode cX11_corner 142 = .ok (.dup2, 1) := by decide +kernel
theorem dX11_corner_143 : decode cX11_corner 143 = .ok (.iaload, 1) := by decide +kernel
theorem dX11_corner_144 : decode cX11_corner 144 = .ok (.iconst 1, 1) := by decide +kernel
theorem dX11_corner_145 : decode cX11_corner 145 = .ok (.iadd, 1) := by decide +kernel
theorem dX11_corner_146 : decode cX11_corner 146 = .ok (.iastore, 1) := by decide +kernel
theorem dX11_corner_147 : decode cX11_corner 147 = .ok (.aload_n 0, 1) := by decide +kernel
theorem dX11_corner_148 : decode cX11_corner 148 = .ok (.iconst 0, 1) := by decide +kernel
theorem dX11_corner_149 : decode cX11_corner 149 = .ok (.putfield 119, 3) := by decide +kernel
theorem dX11_corner_152 : decode cX11_corner 152 = .ok (.aload_n 0, 1) := by decide +kernel
theorem dX11_corner_153 : decode cX11_corner 153 = .ok (.getfield 41, 3) := by decide +kernel
theorem dX11_corner_156 : decode cX11_corner 156 = .ok (.iload_n 1, 1) := by decide +kernel
theorem dX11_corner_157 : decode cX11_corner 157 = .ok (.iaload, 1) := by decide +kernel
theorem dX11_corner_158 : decode cX11_corner 158 = .ok (.ireturn, 1) := by decide +kernel
theorem dX11_tear_0 : decode cX11_tear 0 = .ok (.aload_n 0, 1) := by decide +kernel
theorem dX11_tear_1 : decode cX11_tear 1 = .ok (.iload_n 1, 1) := by decide +kernel
theorem dX11_tear_2 : decode cX11_tear 2 = .ok (.invokevirtual 133, 3) := by decide +kernel
theorem dX11_tear_5 : decode cX11_tear 5 = .ok (.ifCond .ne 9, 3) := by decide +kernel
theorem dX11_tear_8 : decode cX11_tear 8 = .ok (.aload_n 0, 1) := by decide +kernel
theorem dX11_tear_9 : decode cX11_tear 9 = .ok (.iconst 1, 1) := by decide +kernel
theorem dX11_tear_10 : decode cX11_tear 10 = .ok (.invokevirtual 276, 3) := by decide +kernel
theorem dX11_tear_13 : decode cX11_tear 13 = .ok (.ireturn, 1) := by decide +kernel
theorem dX11_tear_14 : decode cX11_tear 14 = .ok (.aload_n 0, 1) := by decide +kernel
theorem dX11_tear_15 : decode cX11_tear 15 = .ok (.getfield 22, 3) := by decide +kernel
theorem dX11_tear_18 : decode cX11_tear 18 = .ok (.iload_n 1, 1) := by decide +kernel
theorem dX11_tear_19 : decode cX11_tear 19 = .ok (.iaload, 1) := by decide +kernel
theorem dX11_tear_20 : decode cX11_tear 20 = .ok (.iconst 2, 1) := by decide +kernel
theorem dX11_tear_21 : decode cX11_tear 21 = .ok (.if_icmp .ne 9, 3) := by decide +kernel
theorem dX11_tear_24 : decode cX11_tear 24 = .ok (.aload_n 0, 1) := by decide +kernel
theorem dX11_tear_25 : decode cX11_tear 25 = .ok (.iconst 2, 1) := by decide +kernel
theorem dX11_tear_26 : decode cX11_tear 26 = .ok (.invokevirtual 276, 3) := by decide +kernel
theorem dX11_tear_29 : decode cX11_tear 29 = .ok (.ireturn, 1) := by decide +kernel
theorem dX11_tear_30 : decode cX11_tear 30 = .ok (.aload_n 0, 1) := by decide +kernel
theorem dX11_tear_31 : decode cX11_tear 31 = .ok (.getfield 25, 3) := by decide +kernel
theorem dX11_tear_34 : decode cX11_tear 34 = .ok (.iload_n 1, 1) := by decide +kernel
theorem dX11_tear_35 : decode cX11_tear 35 = .ok (.baload, 1) := by decide +kernel
theorem dX11_tear_36 : decode cX11_tear 36 = .ok (.ifCond .eq 9, 3) := by decide +kernel
theorem dX11_tear_39 : decode cX11_tear 39 = .ok (.aload_n 0, 1) := by decide +kernel
theorem dX11_tear_40 : decode cX11_tear 40 = .ok (.iconst 5, 1) := by decide +kernel
theorem dX11_tear_41 : decode cX11_tear 41 = .ok (.invokevirtual 276, 3) := by decide +kernel
theorem dX11_tear_44 : decode cX11_tear 44 = .ok (.ireturn, 1) := by decide +kernel
theorem dX11_tear_45 : decode cX11_tear 45 = .ok (.aload_n 0, 1) := by decide +kernel
theorem dX11_tear_46 : decode cX11_tear 46 = .ok (.getfield 25, 3) := by decide +kernel
theorem dX11_tear_49 : decode cX11_tear 49 = .ok (.iload_n 1, 1) := by decide +kernel
theorem dX11_tear_50 : decode cX11_tear 50 = .ok (.iconst 1, 1) := by decide +kernel
theorem dX11_tear_51 : decode cX11_tear 51 = .ok (.bastore, 1) := by decide +kernel
theorem dX11_tear_52 : decode cX11_tear 52 = .ok (.aload_n 0, 1) := by decide +kernel
theorem dX11_tear_53 : decode cX11_tear 53 = .ok (.getfield 41, 3) := by decide +kernel
theorem dX11_tear_56 : decode cX11_tear 56 = .ok (.iload_n 1, 1) := by decide +kernel
theorem dX11_tear_57 : decode cX11_tear 57 = .ok (.iconst 0, 1) := by decide +kernel
theorem dX11_tear_58 : decode cX11_tear 58 = .ok (.iastore, 1) := by decide +kernel
theorem dX11_tear_59 : decode cX11_tear 59 = .ok (.aload_n 0, 1) := by decide +kernel
theorem dX11_tear_60 : decode cX11_tear 60 = .ok (.invokevirtual 273, 3) := by decide +kernel
theorem dX11_tear_63 : decode cX11_tear 63 = .ok (.aload_n 0, 1) := by decide +kernel
theorem dX11_tear_64 : decode cX11_tear 64 = .ok (.iconst 0, 1) := by decide +kernel
theorem dX11_tear_65 : decode cX11_tear 65 = .ok (.putfield 119, 3) := by decide +kernel
theorem dX11_tear_68 : decode cX11_tear 68 = .ok (.iconst 1, 1) := by decide +kernel
theorem dX11_tear_69 : decode cX11_tear 69 = .ok (.ireturn, 1) := by decide +kernel
theorem dX11_done_0 : decode cX11_done 0 = .ok (.aload_n 0, 1) := by decide +kernel
theorem dX11_done_1 : decode cX11_done 1 = .ok (.iload_n 1, 1) := by decide +kernel
theorem dX11_done_2 : decode cX11_done 2 = .ok (.invokevirtual 133, 3) := by decide +kernel
theorem dX11_done_5 : decode cX11_done 5 = .ok (.ifCond .ne 9, 3) := by decide +kernel
theorem dX11_done_8 : decode cX11_done 8 = .ok (.aload_n 0, 1) := by decide +kernel
theorem dX11_done_9 : decode cX11_done 9 = .ok (.iconst 1, 1) := by decide +kernel
theorem dX11_done_10 : decode cX11_done 10 = .ok (.invokevirtual 276, 3) := by decide +kernel
theorem dX11_done_13 : decode cX11_done 13 = .ok (.ireturn, 1) := by decide +kernel
theorem dX11_done_14 : decode cX11_done 14 = .ok (.aload_n 0, 1) := by decide +kernel
theorem dX11_done_15 : decode cX11_done 15 = .ok (.getfield 22, 3) := by decide +kernel
theorem dX11_done_18 : decode cX11_done 18 = .ok (.iload_n 1, 1) := by decide +kernel
theorem dX11_done_19 : decode cX11_done 19 = .ok (.iaload, 1) := by decide +kernel
theorem dX11_done_20 : decode cX11_done 20 = .ok (.ifCond .eq 9, 3) := by decide +kernel
theorem dX11_done_23 : decode cX11_done 23 = .ok (.aload_n 0, 1) := by decide +kernel
theorem dX11_done_24 : decode cX11_done 24 = .ok (.iconst 2, 1) := by decide +kernel
theorem dX11_done_25 : decode cX11_done 25 = .ok (.invokevirtual 276, 3) := by decide +kernel
theorem dX11_done_28 : decode cX11_done 28 = .ok (.ireturn, 1) := by decide +kernel
theorem dX11_done_29 : decode cX11_done 29 = .ok (.aload_n 0, 1) := by decide +kernel
theorem dX11_done_30 : decode cX11_done 30 = .ok (.getfield 25, 3) := by decide +kernel
theorem dX11_done_33 : decode cX11_done 33 = .ok (.iload_n 1, 1) := by decide +kernel
theorem dX11_done_34 : decode cX11_done 34 = .ok (.baload, 1) := by decide +kernel
theorem dX11_done_35 : decode cX11_done 35 = .ok (.ifCond .eq 9, 3) := by decide +kernel
theorem dX11_done_38 : decode cX11_done 38 = .ok (.aload_n 0, 1) := by decide +kernel
theorem dX11_done_39 : decode cX11_done 39 = .ok (.iconst 5, 1) := by decide +kernel
theorem dX11_done_40 : decode cX11_done 40 = .ok (.invokevirtual 276, 3) := by decide +kernel
theorem dX11_done_43 : decode cX11_done 43 = .ok (.ireturn, 1) := by decide +kernel
theorem dX11_done_44 : decode cX11_done 44 = .ok (.aload_n 0, 1) := by decide +kernel
theorem dX11_done_45 : decode cX11_done 45 = .ok (.iload_n 1, 1) := by decide +kernel
theorem dX11_done_46 : decode cX11_done 46 = .ok (.invokevirtual 210, 3) := by decide +kernel
theorem dX11_done_49 : decode cX11_done 49 = .ok (.ifCond .ne 10, 3) := by decide +kernel
theorem dX11_done_52 : decode cX11_done 52 = .ok (.aload_n 0, 1) := by decide +kernel
theorem dX11_done_53 : decode cX11_done 53 = .ok (.bipush 6, 2) := by decide +kernel
theorem dX11_done_55 : decode cX11_done 55 = .ok (.invokevirtual 276, 3) := by decide +kernel
theorem dX11_done_58 : decode cX11_done 58 = .ok (.ireturn, 1) := by decide +kernel
theorem dX11_done_59 : decode cX11_done 59 = .ok (.aload_n 0, 1) := by decide +kernel
theorem dX11_done_60 : decode cX11_done 60 = .ok (.getfield 22, 3) := by decide +kernel
theorem dX11_done_63 : decode cX11_done 63 = .ok (.iload_n 1, 1) := by decide +kernel
theorem dX11_done_64 : decode cX11_done 64 = .ok (.iconst 1, 1) := by decide +kernel
theorem dX11_done_65 : decode cX11_done 65 = .ok (.iastore, 1) := by decide +kernel
theorem dX11_done_66 : decode cX11_done 66 = .ok (.aload_n 0, 1) := by decide +kernel
theorem dX11_done_67 : decode cX11_done 67 = .ok (.invokevirtual 273, 3) := by decide +kernel
theorem dX11_done_70 : decode cX11_done 70 = .ok (.aload_n 0, 1) := by decide +kernel
theorem dX11_done_71 : decode cX11_done 71 = .ok (.iconst 0, 1) := by decide +kernel
theorem dX11_done_72 : decode cX11_done 72 = .ok (.putfield 119, 3) := by decide +kernel
theorem dX11_done_75 : decode cX11_done 75 = .ok (.iconst 1, 1) := by decide +kernel
theorem dX11_done_76 : decode cX11_done 76 = .ok (.ireturn, 1) := by decide +kernel
theorem dX11_lose_0 : decode cX11_lose 0 = .ok (.aload_n 0, 1) := by decide +kernel
theorem dX11_lose_1 : decode cX11_lose 1 = .ok (.getfield 279, 3) := by decide +kernel
theorem dX11_lose_4 : decode cX11_lose 4 = .ok (.aload_n 0, 1) := by decide +kernel
theorem dX11_lose_5 : decode cX11_lose 5 = .ok (.getfield 62, 3) := by decide +kernel
theorem dX11_lose_8 : decode cX11_lose 8 = .ok (.arraylength, 1) := by decide +kernel
theorem dX11_lose_9 : decode cX11_lose 9 = .ok (.if_icmp .ne 125, 3) := by decide +kernel
theorem dX11_lose_12 : decode cX11_lose 12 = .ok (.iconst 2, 1) := by decide +kernel
theorem dX11_lose_13 : decode cX11_lose 13 = .ok (.aload_n 0, 1) := by decide +kernel
theorem dX11_lose_14 : decode cX11_lose 14 = .ok (.getfield 279, 3) := by decide +kernel
theorem dX11_lose_17 : decode cX11_lose 17 = .ok (.imul, 1) := by decide +kernel
theorem dX11_lose_18 : decode cX11_lose 18 = .ok (.istore 5, 2) := by decide +kernel
theorem dX11_lose_20 : decode cX11_lose 20 = .ok (.iload 5, 2) := by decide +kernel
theorem dX11_lose_22 : decode cX11_lose 22 = .ok (.newarray .int, 2) := by decide +kernel
theorem dX11_lose_24 : decode cX11_lose 24 = .ok (.astore 6, 2) := by decide +kernel
theorem dX11_lose_26 : decode cX11_lose 26 = .ok (.iload 5, 2) := by decide +kernel
theorem dX11_lose_28 : decode cX11_lose 28 = .ok (.newarray .int, 2) := by decide +kernel
theorem dX11_lose_30 : decode cX11_lose 30 = .ok (.astore 7, 2) := by decide +kernel
theorem dX11_lose_32 : decode cX11_lose 32 = .ok (.iload 5, 2) := by decide +kernel
theorem dX11_lose_34 : decode cX11_lose 34 = .ok (.newarray .int, 2) := by decide +kernel
theorem dX11_lose_36 : decode cX11_lose 36 = .ok (.astore 8, 2) := by decide +kernel
theorem dX11_lose_38 : decode cX11_lose 38 = .ok (.iload 5, 2) := by decide +kernel
theorem dX11_lose_40 : decode cX11_lose 40 = .ok (.newarray .int, 2) := by decide +kernel
theorem dX11_lose_42 : decode cX11_lose 42 = .ok (.astore 9, 2) := by decide +kernel
theorem dX11_lose_44 : decode cX11_lose 44 = .ok (.iconst 0, 1) := by decide +kernel
theorem dX11_lose_45 : decode cX11_lose 45 = .ok (.istore 10, 2) := by decide +kernel
theorem dX11_lose_47 : decode cX11_lose 47 = .ok (.iload 10, 2) := by decide +kernel
theorem dX11_lose_49 : decode cX11_lose 49 = .ok (.aload_n 0, 1) := by decide +kernel
theorem dX11_lose_50 : decode cX11_lose 50 = .ok (.getfield 279, 3) := by decide +kernel
theorem dX11_lose_53 : decode cX11_lose 53 = .ok (.if_icmp .ge 57, 3) := by decide +kernel
theorem dX11_lose_56 : decode cX11_lose 56 = .ok (.aload 6, 2) := by decide +kernel
theorem dX11_lose_58 : decode cX11_lose 58 = .ok (.iload 10, 2) := by decide +kernel
theorem dX11_lose_60 : decode cX11_lose 60 = .ok (.aload_n 0, 1) := by decide +kernel
theorem dX11_lose_61 : decode cX11_lose 61 = .ok (.getfield 59, 3) := by decide +kernel
theorem dX11_lose_64 : decode cX11_lose 64 = .ok (.iload 10, 2) := by decide +kernel
theorem dX11_lose_66 : decode cX11_lose 66 = .ok (.iaload, 1) := by decide +kernel
theorem dX11_lose_67 : decode cX11_lose 67 = .ok (.iastore, 1) := by decide +kernel
theorem dX11_lose_68 : decode cX11_lose 68 = .ok (.aload 7, 2) := by decide +kernel
theorem dX11_lose_70 : decode cX11_lose 70 = .ok (.iload 10, 2) := by decide +kernel
theorem dX11_lose_72 : decode cX11_lose 72 = .ok (.aload_n 0, 1) := by decide +kernel
theorem dX11_lose_73 : decode cX11_lose 73 = .ok (.getfield 62, 3) := by decide +kernel
theorem dX11_lose_76 : decode cX11_lose 76 = .ok (.iload 10, 2) := by decide +kernel
theorem dX11_lose_78 : decode cX11_lose 78 = .ok (.iaload, 1) := by decide +kernel
theorem dX11_lose_79 : decode cX11_lose 79 = .ok (.iastore, 1) := by decide +kernel
theorem dX11_lose_80 : decode cX11_lose 80 = .ok (.aload 8, 2) := by decide +kernel
theorem dX11_lose_82 : decode cX11_lose 82 = .ok (.iload 10, 2) := by decide +kernel
theorem dX11_lose_84 : decode cX11_lose 84 = .ok (.aload_n 0, 1) := by decide +kernel
theorem dX11_lose_85 : decode cX11_lose 85 = .ok (.getfield 65, 3) := by decide +kernel
theorem dX11_lose_88 : decode cX11_lose 88 = .ok (.iload 10, 2) := by decide +kernel
theorem dX11_lose_90 : decode cX11_lose 90 = .ok (.iaload, 1) := by decide +kernel
theorem dX11_lose_91 : decode cX11_lose 91 = .ok (.iastore, 1) := by decide +kernel
theorem dX11_lose_92 : decode cX11_lose 92 = .ok (.aload 9, 2) := by decide +kernel
theorem dX11_lose_94 : decode cX11_lose 94 = .ok (.iload 10, 2) := by decide +kernel
theorem dX11_lose_96 : decode cX11_lose 96 = .ok (.aload_n 0, 1) := by decide +kernel
theorem dX11_lose_97 : decode cX11_lose 97 = .ok (.getfield 68, 3) := by decide +kernel
theorem dX11_lose_100 : decode cX11_lose 100 = .ok (.iload 10, 2) := by decide +kernel
theorem dX11_lose_102 : decode cX11_lose 102 = .ok (.iaload, 1) := by decide +kernel
theorem dX11_lose_103 : decode cX11_lose 103 = .ok (.iastore, 1) := by decide +kernel
theorem dX11_lose_104 : decode cX11_lose 104 = .ok (.iinc 10 1, 3) := by decide +kernel
theorem dX11_lose_107 : decode cX11_lose 107 = .ok (.goto (-60), 3) := by decide +kernel
theorem dX11_lose_110 : decode cX11_lose 110 = .ok (.aload_n 0, 1) := by decide +kernel
theorem dX11_lose_111 : decode cX11_lose 111 = .ok (.aload 6, 2) := by decide +kernel
theorem dX11_lose_113 : decode cX11_lose 113 = .ok (.putfield 59, 3) := by decide +kernel
theorem dX11_lose_116 : decode cX11_lose 116 = .ok (.aload_n 0, 1) := by decide +kernel
theorem dX11_lose_117 : decode cX11_lose 117 = .ok (.aload 7, 2) := by decide +kernel
theorem dX11_lose_119 : decode cX11_lose 119 = .ok (.putfield 62, 3) := by decide +kernel
theorem dX11_lose_122 : decode cX11_lose 122 = .ok (.aload_n 0, 1) := by decide +kernel
theorem dX11_lose_123 : decode cX11_lose 123 = .ok (.aload 8, 2) := by decide +kernel
theorem dX11_lose_125 : decode cX11_lose 125 = .ok (.putfield 65, 3) := by decide +kernel
theorem dX11_lose_128 : decode cX11_lose 128 = .ok (.aload_n 0, 1) := by decide +kernel
theorem dX11_lose_129 : decode cX11_lose 129 = .ok (.aload 9, 2) := by decide +kernel
theorem dX11_lose_131 : decode cX11_lose 131 = .ok (.putfield 68, 3) := by decide +kernel
theorem dX11_lose_134 : decode cX11_lose 134 = .ok (.aload_n 0, 1) := by decide +kernel
theorem dX11_lose_135 : decode cX11_lose 135 = .ok (.getfield 59, 3) := by decide +kernel
theorem dX11_lose_138 : decode cX11_lose 138 = .ok (.aload_n 0, 1) := by decide +kernel
theorem dX11_lose_139 : decode cX11_lose 139 = .ok (.getfield 279, 3) := by decide +kernel
theorem dX11_lose_142 : decode cX11_lose 142 = .ok (.iload_n 1, 1) := by decide +kernel
theorem dX11_lose_143 : decode cX11_lose 143 = .ok (.iastore, 1) := by decide +kernel
theorem dX11_lose_144 : decode cX11_lose 144 = .ok (.aload_n 0, 1) := by decide +kernel
theorem dX11_lose_145 : decode cX11_lose 145 = .ok (.getfield 62, 3) := by decide +kernel
theorem dX11_lose_148 : decode cX11_lose 148 = .ok (.aload_n 0, 1) := by decide +kernel
theorem dX11_lose_149 : decode cX11_lose 149 = .ok (.getfield 279, 3) := by decide +kernel
theorem dX11_lose_152 : decode cX11_lose 152 = .ok (.iload_n 2, 1) := by decide +kernel
theorem dX11_lose_153 : decode cX11_lose 153 = .ok (.iastore, 1) := by decide +kernel
theorem dX11_lose_154 : decode cX11_lose 154 = .ok (.aload_n 0, 1) := by decide +kernel
theorem dX11_lose_155 : decode cX11_lose 155 = .ok (.getfield 65, 3) := by decide +kernel
theorem dX11_lose_158 : decode cX11_lose 158 = .ok (.aload_n 0, 1) := by decide +kernel
theorem dX11_lose_159 : decode cX11_lose 159 = .ok (.getfield 279, 3) := by decide +kernel
theorem dX11_lose_162 : decode cX11_lose 162 = .ok (.iload_n 3, 1) := by decide +kernel
theorem dX11_lose_163 : decode cX11_lose 163 = .ok (.iastore, 1) := by decide +kernel
theorem dX11_lose_164 : decode cX11_lose 164 = .ok (.aload_n 0, 1) := by decide +kernel
theorem dX11_lose_165 : decode cX11_lose 165 = .ok (.getfield 68, 3) := by decide +kernel
theorem dX11_lose_168 : decode cX11_lose 168 = .ok (.aload_n 0, 1) := by decide +kernel
theorem dX11_lose_169 : decode cX11_lose 169 = .ok (.getfield 279, 3) := by decide +kernel
theorem dX11_lose_172 : decode cX11_lose 172 = .ok (.iload 4, 2) := by decide +kernel
theorem dX11_lose_174 : decode cX11_lose 174 = .ok (.iastore, 1) := by decide +kernel
theorem dX11_lose_175 : decode cX11_lose 175 = .ok (.aload_n 0, 1) := by decide +kernel
theorem dX11_lose_176 : decode cX11_lose 176 = .ok (.dup, 1) := by decide +kernel
theorem dX11_lose_177 : decode cX11_lose 177 = .ok (.getfield 279, 3) := by decide +kernel
theorem dX11_lose_180 : decode cX11_lose 180 = .ok (.iconst 1, 1) := by decide +kernel
theorem dX11_lose_181 : decode cX11_lose 181 = .ok (.iadd, 1) := by decide +kernel
theorem dX11_lose_182 : decode cX11_lose 182 = .ok (.putfield 279, 3) := by decide +kernel
theorem dX11_lose_185 : decode cX11_lose 185 = .ok (.return_, 1) := by decide +kernel
theorem dX11_isHeld_0 : decode cX11_isHeld 0 = .ok (.iconst 0, 1) := by decide +kernel
theorem dX11_isHeld_1 : decode cX11_isHeld 1 = .ok (.istore 4, 2) := by decide +kernel
theorem dX11_isHeld_3 : decode cX11_isHeld 3 = .ok (.iload 4, 2) := by decide +kernel
theorem dX11_isHeld_5 : decode cX11_isHeld 5 = .ok (.aload_n 0, 1) := by decide +kernel
theorem dX11_isHeld_6 : decode cX11_isHeld 6 = .ok (.getfield 130, 3) := by decide +kernel
theorem dX11_isHeld_9 : decode cX11_isHeld 9 = .ok (.if_icmp .ge 37, 3) := by decide +kernel
theorem dX11_isHeld_12 : decode cX11_isHeld 12 = .ok (.iload 4, 2) := by decide +kernel
theorem dX11_isHeld_14 : decode cX11_isHeld 14 = .ok (.iload_n 1, 1) := by decide +kernel
theorem dX11_isHeld_15 : decode cX11_isHeld 15 = .ok (.if_icmp .eq 25, 3) := by decide +kernel
theorem dX11_isHeld_18 : decode cX11_isHeld 18 = .ok (.aload_n 0, 1) := by decide +kernel
theorem dX11_isHeld_19 : decode cX11_isHeld 19 = .ok (.iload 4, 2) := by decide +kernel
theorem dX11_isHeld_21 : decode cX11_isHeld 21 = .ok (.invokevirtual 197, 3) := by decide +kernel
theorem dX11_isHeld_24 : decode cX11_isHeld 24 = .ok (.ifCond .eq 16, 3) := by decide +kernel
theorem dX11_isHeld_27 : decode cX11_isHeld 27 = .ok (.aload_n 0, 1) := by decide +kernel
theorem dX11_isHeld_28 : decode cX11_isHeld 28 = .ok (.iload 4, 2) := by decide +kernel
theorem dX11_isHeld_30 : decode cX11_isHeld 30 = .ok (.iload_n 2, 1) := by decide +kernel
theorem dX11_isHeld_31 : decode cX11_isHeld 31 = .ok (.iload_n 3, 1) := by decide +kernel
theorem dX11_isHeld_32 : decode cX11_isHeld 32 = .ok (.invokevirtual 175, 3) := by decide +kernel
theorem dX11_isHeld_35 : decode cX11_isHeld 35 = .ok (.ifCond .eq 5, 3) := by decide +kernel
theorem dX11_isHeld_38 : decode cX11_isHeld 38 = .ok (.iconst 1, 1) := by decide +kernel
theorem dX11_isHeld_39 : decode cX11_isHeld 39 = .ok (.ireturn, 1) := by decide +kernel
theorem dX11_isHeld_40 : decode cX11_isHeld 40 = .ok (.iinc 4 1, 3) := by decide +kernel
theorem dX11_isHeld_43 : decode cX11_isHeld 43 = .ok (.goto (-40), 3) := by decide +kernel
theorem dX11_isHeld_46 : decode cX11_isHeld 46 = .ok (.iconst 0, 1) := by decide +kernel
theorem dX11_isHeld_47 : decode cX11_isHeld 47 = .ok (.ireturn, 1) := by decide +kernel
theorem dX11_triangle_0 : decode cX11_triangle 0 = .ok (.aload_n 0, 1) := by decide +kernel
theorem dX11_triangle_1 : decode cX11_triangle 1 = .ok (.getfield 41, 3) := by decide +kernel
theorem dX11_triangle_4 : decode cX11_triangle 4 = .ok (.iload_n 1, 1) := by decide +kernel
theorem dX11_triangle_5 : decode cX11_triangle 5 = .ok (.iaload, 1) := by decide +kernel
theorem dX11_triangle_6 : decode cX11_triangle 6 = .ok (.istore_n 3, 1) := by decide +kernel
theorem dX11_triangle_7 : decode cX11_triangle 7 = .ok (.bipush 40, 2) := by decide +kernel
theorem dX11_triangle_9 : decode cX11_triangle 9 = .ok (.iload_n 1, 1) := by decide +kernel
theorem dX11_triangle_10 : decode cX11_triangle 10 = .ok (.imul, 1) := by decide +kernel
theorem dX11_triangle_11 : decode cX11_triangle 11 = .ok (.iload_n 2, 1) := by decide +kernel
theorem dX11_triangle_12 : decode cX11_triangle 12 = .ok (.ifCond .ne 9, 3) := by decide +kernel
theorem dX11_triangle_15 : decode cX11_triangle 15 = .ok (.iload_n 3, 1) := by decide +kernel
theorem dX11_triangle_16 : decode cX11_triangle 16 = .ok (.iconst 1, 1) := by decide +kernel
theorem dX11_triangle_17 : decode cX11_triangle 17 = .ok (.isub, 1) := by decide +kernel
theorem dX11_triangle_18 : decode cX11_triangle 18 = .ok (.goto 6, 3) := by decide +kernel
theorem dX11_triangle_21 : decode cX11_triangle 21 = .ok (.iload_n 2, 1) := by decide +kernel
theorem dX11_triangle_22 : decode cX11_triangle 22 = .ok (.iconst 1, 1) := by decide +kernel
theorem dX11_triangle_23 : decode cX11_triangle 23 = .ok (.isub, 1) := by decide +kernel
theorem dX11_triangle_24 : decode cX11_triangle 24 = .ok (.iadd, 1) := by decide +kernel
theorem dX11_triangle_25 : decode cX11_triangle 25 = .ok (.istore 4, 2) := by decide +kernel
theorem dX11_triangle_27 : decode cX11_triangle 27 = .ok (.bipush 40, 2) := by decide +kernel
theorem dX11_triangle_29 : decode cX11_triangle 29 = .ok (.iload_n 1, 1) := by decide +kernel
theorem dX11_triangle_30 : decode cX11_triangle 30 = .ok (.imul, 1) := by decide +kernel
theorem dX11_triangle_31 : decode cX11_triangle 31 = .ok (.iload_n 2, 1) := by decide +kernel
theorem dX11_triangle_32 : decode cX11_triangle 32 = .ok (.iadd, 1) := by decide +kernel
theorem dX11_triangle_33 : decode cX11_triangle 33 = .ok (.istore 5, 2) := by decide +kernel
theorem dX11_triangle_35 : decode cX11_triangle 35 = .ok (.bipush 40, 2) := by decide +kernel
theorem dX11_triangle_37 : decode cX11_triangle 37 = .ok (.iload_n 1, 1) := by decide +kernel
theorem dX11_triangle_38 : decode cX11_triangle 38 = .ok (.imul, 1) := by decide +kernel
theorem dX11_triangle_39 : decode cX11_triangle 39 = .ok (.iload_n 2, 1) := by decide +kernel
theorem dX11_triangle_40 : decode cX11_triangle 40 = .ok (.iconst 1, 1) := by decide +kernel
theorem dX11_triangle_41 : decode cX11_triangle 41 = .ok (.iadd, 1) := by decide +kernel
theorem dX11_triangle_42 : decode cX11_triangle 42 = .ok (.iload_n 3, 1) := by decide +kernel
theorem dX11_triangle_43 : decode cX11_triangle 43 = .ok (.if_icmp .ne 7, 3) := by decide +kernel
theorem dX11_triangle_46 : decode cX11_triangle 46 = .ok (.iconst 0, 1) := by decide +kernel
theorem dX11_triangle_47 : decode cX11_triangle 47 = .ok (.goto 6, 3) := by decide +kernel
theorem dX11_triangle_50 : decode cX11_triangle 50 = .ok (.iload_n 2, 1) := by decide +kernel
theorem dX11_triangle_51 : decode cX11_triangle 51 = .ok (.iconst 1, 1) := by decide +kernel
theorem dX11_triangle_52 : decode cX11_triangle 52 = .ok (.iadd, 1) := by decide +kernel
theorem dX11_triangle_53 : decode cX11_triangle 53 = .ok (.iadd, 1) := by decide +kernel
theorem dX11_triangle_54 : decode cX11_triangle 54 = .ok (.istore 6, 2) := by decide +kernel
theorem dX11_triangle_56 : decode cX11_triangle 56 = .ok (.aload_n 0, 1) := by decide +kernel
theorem dX11_triangle_57 : decode cX11_triangle 57 = .ok (.getfield 44, 3) := by decide +kernel
theorem dX11_triangle_60 : decode cX11_triangle 60 = .ok (.iload 4, 2) := by decide +kernel
theorem dX11_triangle_62 : decode cX11_triangle 62 = .ok (.iaload, 1) := by decide +kernel
theorem dX11_triangle_63 : decode cX11_triangle 63 = .ok (.i2l, 1) := by decide +kernel
theorem dX11_triangle_64 : decode cX11_triangle 64 = .ok (.aload_n 0, 1) := by decide +kernel
theorem dX11_triangle_65 : decode cX11_triangle 65 = .ok (.getfield 47, 3) := by decide +kernel
theorem dX11_triangle_68 : decode cX11_triangle 68 = .ok (.iload 4, 2) := by decide +kernel
theorem dX11_triangle_70 : decode cX11_triangle 70 = .ok (.iaload, 1) := by decide +kernel
theorem dX11_triangle_71 : decode cX11_triangle 71 = .ok (.i2l, 1) := by decide +kernel
theorem dX11_triangle_72 : decode cX11_triangle 72 = .ok (.aload_n 0, 1) := by decide +kernel
theorem dX11_triangle_73 : decode cX11_triangle 73 = .ok (.getfield 44, 3) := by decide +kernel
theorem dX11_triangle_76 : decode cX11_triangle 76 = .ok (.iload 5, 2) := by decide +kernel
theorem dX11_triangle_78 : decode cX11_triangle 78 = .ok (.iaload, 1) := by decide +kernel
theorem dX11_triangle_79 : decode cX11_triangle 79 = .ok (.i2l, 1) := by decide +kernel
theorem dX11_triangle_80 : decode cX11_triangle 80 = .ok (.aload_n 0, 1) := by decide +kernel
theorem dX11_triangle_81 : decode cX11_triangle 81 = .ok (.getfield 47, 3) := by decide +kernel
theorem dX11_triangle_84 : decode cX11_triangle 84 = .ok (.iload 5, 2) := by decide +kernel
theorem dX11_triangle_86 : decode cX11_triangle 86 = .ok (.iaload, 1) := by decide +kernel
theorem dX11_triangle_87 : decode cX11_triangle 87 = .ok (.i2l, 1) := by decide +kernel
theorem dX11_triangle_88 : decode cX11_triangle 88 = .ok (.aload_n 0, 1) := by decide +kernel
theorem dX11_triangle_89 : decode cX11_triangle 89 = .ok (.getfield 44, 3) := by decide +kernel
theorem dX11_triangle_92 : decode cX11_triangle 92 = .ok (.iload 6, 2) := by decide +kernel
theorem dX11_triangle_94 : decode cX11_triangle 94 = .ok (.iaload, 1) := by decide +kernel
theorem dX11_triangle_95 : decode cX11_triangle 95 = .ok (.i2l, 1) := by decide +kernel
theorem dX11_triangle_96 : decode cX11_triangle 96 = .ok (.aload_n 0, 1) := by decide +kernel
theorem dX11_triangle_97 : decode cX11_triangle 97 = .ok (.getfield 47, 3) := by decide +kernel
theorem dX11_triangle_100 : decode cX11_triangle 100 = .ok (.iload 6, 2) := by decide +kernel
theorem dX11_triangle_102 : decode cX11_triangle 102 = .ok (.iaload, 1) := by decide +kernel
theorem dX11_triangle_103 : decode cX11_triangle 103 = .ok (.i2l, 1) := by decide +kernel
theorem dX11_triangle_104 : decode cX11_triangle 104 = .ok (.invokestatic 140, 3) := by decide +kernel
theorem dX11_triangle_107 : decode cX11_triangle 107 = .ok (.lstore 7, 2) := by decide +kernel
theorem dX11_triangle_109 : decode cX11_triangle 109 = .ok (.lload 7, 2) := by decide +kernel
theorem dX11_triangle_111 : decode cX11_triangle 111 = .ok (.lconst 0, 1) := by decide +kernel
theorem dX11_triangle_112 : decode cX11_triangle 112 = .ok (.lcmp, 1) := by decide +kernel
theorem dX11_triangle_113 : decode cX11_triangle 113 = .ok (.ifCond .ge 9, 3) := by decide +kernel
theorem dX11_triangle_116 : decode cX11_triangle 116 = .ok (.lload 7, 2) := by decide +kernel
theorem dX11_triangle_118 : decode cX11_triangle 118 = .ok (.lneg, 1) := by decide +kernel
theorem dX11_triangle_119 : decode cX11_triangle 119 = .ok (.goto 5, 3) := by decide +kernel
theorem dX11_triangle_122 : decode cX11_triangle 122 = .ok (.lload 7, 2) := by decide +kernel
theorem dX11_triangle_124 : decode cX11_triangle 124 = .ok (.lreturn, 1) := by decide +kernel
theorem dX11_mayGo_0 : decode cX11_mayGo 0 = .ok (.aload_n 0, 1) := by decide +kernel
theorem dX11_mayGo_1 : decode cX11_mayGo 1 = .ok (.iload_n 1, 1) := by decide +kernel
theorem dX11_mayGo_2 : decode cX11_mayGo 2 = .ok (.invokevirtual 161, 3) := by decide +kernel
theorem dX11_mayGo_5 : decode cX11_mayGo 5 = .ok (.ifCond .eq 16, 3) := by decide +kernel
theorem dX11_mayGo_8 : decode cX11_mayGo 8 = .ok (.aload_n 0, 1) := by decide +kernel
theorem dX11_mayGo_9 : decode cX11_mayGo 9 = .ok (.getfield 41, 3) := by decide +kernel
theorem dX11_mayGo_12 : decode cX11_mayGo 12 = .ok (.iload_n 1, 1) := by decide +kernel
theorem dX11_mayGo_13 : decode cX11_mayGo 13 = .ok (.iaload, 1) := by decide +kernel
theorem dX11_mayGo_14 : decode cX11_mayGo 14 = .ok (.iconst 3, 1) := by decide +kernel
theorem dX11_mayGo_15 : decode cX11_mayGo 15 = .ok (.if_icmp .ne 24, 3) := by decide +kernel
theorem dX11_mayGo_18 : decode cX11_mayGo 18 = .ok (.goto 19, 3) := by decide +kernel
theorem dX11_mayGo_21 : decode cX11_mayGo 21 = .ok (.iload_n 2, 1) := by decide +kernel
theorem dX11_mayGo_22 : decode cX11_mayGo 22 = .ok (.ifCond .eq 15, 3) := by decide +kernel
theorem dX11_mayGo_25 : decode cX11_mayGo 25 = .ok (.iload_n 2, 1) := by decide +kernel
theorem dX11_mayGo_26 : decode cX11_mayGo 26 = .ok (.aload_n 0, 1) := by decide +kernel
theorem dX11_mayGo_27 : decode cX11_mayGo 27 = .ok (.getfield 41, 3) := by decide +kernel
theorem dX11_mayGo_30 : decode cX11_mayGo 30 = .ok (.iload_n 1, 1) := by decide +kernel
theorem dX11_mayGo_31 : decode cX11_mayGo 31 = .ok (.iaload, 1) := by decide +kernel
theorem dX11_mayGo_32 : decode cX11_mayGo 32 = .ok (.iconst 1, 1) := by decide +kernel
theorem dX11_mayGo_33 : decode cX11_mayGo 33 = .ok (.isub, 1) := by decide +kernel
theorem dX11_mayGo_34 : decode cX11_mayGo 34 = .ok (.if_icmp .ne 5, 3) := by decide +kernel
theorem dX11_mayGo_37 : decode cX11_mayGo 37 = .ok (.iconst 0, 1) := by decide +kernel
theorem dX11_mayGo_38 : decode cX11_mayGo 38 = .ok (.ireturn, 1) := by decide +kernel
theorem dX11_mayGo_39 : decode cX11_mayGo 39 = .ok (.aload_n 0, 1) := by decide +kernel
theorem dX11_mayGo_40 : decode cX11_mayGo 40 = .ok (.iload_n 1, 1) := by decide +kernel
theorem dX11_mayGo_41 : decode cX11_mayGo 41 = .ok (.aload_n 0, 1) := by decide +kernel
theorem dX11_mayGo_42 : decode cX11_mayGo 42 = .ok (.getfield 44, 3) := by decide +kernel
theorem dX11_mayGo_45 : decode cX11_mayGo 45 = .ok (.bipush 40, 2) := by decide +kernel
theorem dX11_mayGo_47 : decode cX11_mayGo 47 = .ok (.iload_n 1, 1) := by decide +kernel
theorem dX11_mayGo_48 : decode cX11_mayGo 48 = .ok (.imul, 1) := by decide +kernel
theorem dX11_mayGo_49 : decode cX11_mayGo 49 = .ok (.iload_n 2, 1) := by decide +kernel
theorem dX11_mayGo_50 : decode cX11_mayGo 50 = .ok (.iadd, 1) := by decide +kernel
theorem dX11_mayGo_51 : decode cX11_mayGo 51 = .ok (.iaload, 1) := by decide +kernel
theorem dX11_mayGo_52 : decode cX11_mayGo 52 = .ok (.aload_n 0, 1) := by decide +kernel
theorem dX11_mayGo_53 : decode cX11_mayGo 53 = .ok (.getfield 47, 3) := by decide +kernel
theorem dX11_mayGo_56 : decode cX11_mayGo 56 = .ok (.bipush 40, 2) := by decide +kernel
theorem dX11_mayGo_58 : decode cX11_mayGo 58 = .ok (.iload_n 1, 1) := by decide +kernel
theorem dX11_mayGo_59 : decode cX11_mayGo 59 = .ok (.imul, 1) := by decide +kernel
theorem dX11_mayGo_60 : decode cX11_mayGo 60 = .ok (.iload_n 2, 1) := by decide +kernel
theorem dX11_mayGo_61 : decode cX11_mayGo 61 = .ok (.iadd, 1) := by decide +kernel
theorem dX11_mayGo_62 : decode cX11_mayGo 62 = .ok (.iaload, 1) := by decide +kernel
theorem dX11_mayGo_63 : decode cX11_mayGo 63 = .ok (.invokevirtual 282, 3) := by decide +kernel
theorem dX11_mayGo_66 : decode cX11_mayGo 66 = .ok (.ifCond .ne 7, 3) := by decide +kernel
theorem dX11_mayGo_69 : decode cX11_mayGo 69 = .ok (.iconst 1, 1) := by decide +kernel
theorem dX11_mayGo_70 : decode cX11_mayGo 70 = .ok (.goto 4, 3) := by decide +kernel
theorem dX11_mayGo_73 : decode cX11_mayGo 73 = .ok (.iconst 0, 1) := by decide +kernel
theorem dX11_mayGo_74 : decode cX11_mayGo 74 = .ok (.ireturn, 1) := by decide +kernel
theorem dX11_goes_0 : decode cX11_goes 0 = .ok (.aload_n 0, 1) := by decide +kernel
theorem dX11_goes_1 : decode cX11_goes 1 = .ok (.iload_n 1, 1) := by decide +kernel
theorem dX11_goes_2 : decode cX11_goes 2 = .ok (.invokevirtual 285, 3) := by decide +kernel
theorem dX11_goes_5 : decode cX11_goes 5 = .ok (.iload_n 2, 1) := by decide +kernel
theorem dX11_goes_6 : decode cX11_goes 6 = .ok (.istore_n 3, 1) := by decide +kernel
theorem dX11_goes_7 : decode cX11_goes 7 = .ok (.iload_n 3, 1) := by decide +kernel
theorem dX11_goes_8 : decode cX11_goes 8 = .ok (.aload_n 0, 1) := by decide +kernel
theorem dX11_goes_9 : decode cX11_goes 9 = .ok (.getfield 191, 3) := by decide +kernel
theorem dX11_goes_12 : decode cX11_goes 12 = .ok (.iconst 1, 1) := by decide +kernel
theorem dX11_goes_13 : decode cX11_goes 13 = .ok (.isub, 1) := by decide +kernel
theorem dX11_goes_14 : decode cX11_goes 14 = .ok (.if_icmp .ge 47, 3) := by decide +kernel
theorem dX11_goes_17 : decode cX11_goes 17 = .ok (.aload_n 0, 1) := by decide +kernel
theorem dX11_goes_18 : decode cX11_goes 18 = .ok (.getfield 44, 3) := by decide +kernel
theorem dX11_goes_21 : decode cX11_goes 21 = .ok (.bipush 40, 2) := by decide +kernel
theorem dX11_goes_23 : decode cX11_goes 23 = .ok (.iload_n 1, 1) := by decide +kernel
theorem dX11_goes_24 : decode cX11_goes 24 = .ok (.imul, 1) := by decide +kernel
theorem dX11_goes_25 : decode cX11_goes 25 = .ok (.iload_n 3, 1) := by decide +kernel
theorem dX11_goes_26 : decode cX11_goes 26 = .ok (.iadd, 1) := by decide +kernel
theorem dX11_goes_27 : decode cX11_goes 27 = .ok (.aload_n 0, 1) := by decide +kernel
theorem dX11_goes_28 : decode cX11_goes 28 = .ok (.getfield 86, 3) := by decide +kernel
theorem dX11_goes_31 : decode cX11_goes 31 = .ok (.iload_n 3, 1) := by decide +kernel
theorem dX11_goes_32 : decode cX11_goes 32 = .ok (.iconst 1, 1) := by decide +kernel
theorem dX11_goes_33 : decode cX11_goes 33 = .ok (.iadd, 1) := by decide +kernel
theorem dX11_goes_34 : decode cX11_goes 34 = .ok (.iaload, 1) := by decide +kernel
theorem dX11_goes_35 : decode cX11_goes 35 = .ok (.iastore, 1) := by decide +kernel
theorem dX11_goes_36 : decode cX11_goes 36 = .ok (.aload_n 0, 1) := by decide +kernel
theorem dX11_goes_37 : decode cX11_goes 37 = .ok (.getfield 47, 3) := by decide +kernel
theorem dX11_goes_40 : decode cX11_goes 40 = .ok (.bipush 40, 2) := by decide +kernel
theorem dX11_goes_42 : decode cX11_goes 42 = .ok (.iload_n 1, 1) := by decide +kernel
theorem dX11_goes_43 : decode cX11_goes 43 = .ok (.imul, 1) := by decide +kernel
theorem dX11_goes_44 : decode cX11_goes 44 = .ok (.iload_n 3, 1) := by decide +kernel
theorem dX11_goes_45 : decode cX11_goes 45 = .ok (.iadd, 1) := by decide +kernel
theorem dX11_goes_46 : decode cX11_goes 46 = .ok (.aload_n 0, 1) := by decide +kernel
theorem dX11_goes_47 : decode cX11_goes 47 = .ok (.getfield 89, 3) := by decide +kernel
theorem dX11_goes_50 : decode cX11_goes 50 = .ok (.iload_n 3, 1) := by decide +kernel
theorem dX11_goes_51 : decode cX11_goes 51 = .ok (.iconst 1, 1) := by decide +kernel
theorem dX11_goes_52 : decode cX11_goes 52 = .ok (.iadd, 1) := by decide +kernel
theorem dX11_goes_53 : decode cX11_goes 53 = .ok (.iaload, 1) := by decide +kernel
theorem dX11_goes_54 : decode cX11_goes 54 = .ok (.iastore, 1) := by decide +kernel
theorem dX11_goes_55 : decode cX11_goes 55 = .ok (.iinc 3 1, 3) := by decide +kernel
theorem dX11_goes_58 : decode cX11_goes 58 = .ok (.goto (-51), 3) := by decide +kernel
theorem dX11_goes_61 : decode cX11_goes 61 = .ok (.aload_n 0, 1) := by decide +kernel
theorem dX11_goes_62 : decode cX11_goes 62 = .ok (.getfield 41, 3) := by decide +kernel
theorem dX11_goes_65 : decode cX11_goes 65 = .ok (.iload_n 1, 1) := by decide +kernel
theorem dX11_goes_66 : decode cX11_goes 66 = .ok (.aload_n 0, 1) := by decide +kernel
theorem dX11_goes_67 : decode cX11_goes 67 = .ok (.getfield 191, 3) := by decide +kernel
theorem dX11_goes_70 : decode cX11_goes 70 = .ok (.iconst 1, 1) := by decide +kernel
theorem dX11_goes_71 : decode cX11_goes 71 = .ok (.isub, 1) := by decide +kernel
theorem dX11_goes_72 : decode cX11_goes 72 = .ok (.iastore, 1) := by decide +kernel
theorem dX11_goes_73 : decode cX11_goes 73 = .ok (.aload_n 0, 1) := by decide +kernel
theorem dX11_goes_74 : decode cX11_goes 74 = .ok (.iload_n 1, 1) := by decide +kernel
theorem dX11_goes_75 : decode cX11_goes 75 = .ok (.iconst 1, 1) := by decide +kernel
theorem dX11_goes_76 : decode cX11_goes 76 = .ok (.iload_n 2, 1) := by decide +kernel
theorem dX11_goes_77 : decode cX11_goes 77 = .ok (.invokevirtual 288, 3) := by decide +kernel
theorem dX11_goes_80 : decode cX11_goes 80 = .ok (.ifCond .eq 5, 3) := by decide +kernel
theorem dX11_goes_83 : decode cX11_goes 83 = .ok (.iconst 1, 1) := by decide +kernel
theorem dX11_goes_84 : decode cX11_goes 84 = .ok (.ireturn, 1) := by decide +kernel
theorem dX11_goes_85 : decode cX11_goes 85 = .ok (.aload_n 0, 1) := by decide +kernel
theorem dX11_goes_86 : decode cX11_goes 86 = .ok (.iload_n 1, 1) := by decide +kernel
theorem dX11_goes_87 : decode cX11_goes 87 = .ok (.invokevirtual 291, 3) := by decide +kernel
theorem dX11_goes_90 : decode cX11_goes 90 = .ok (.iconst 0, 1) := by decide +kernel
theorem dX11_goes_91 : decode cX11_goes 91 = .ok (.ireturn, 1) := by decide +kernel
theorem dX11_plain_0 : decode cX11_plain 0 = .ok (.iconst 0, 1) := by decide +kernel
theorem dX11_plain_1 : decode cX11_plain 1 = .ok (.istore 5, 2) := by decide +kernel
theorem dX11_plain_3 : decode cX11_plain 3 = .ok (.iload 5, 2) := by decide +kernel
theorem dX11_plain_5 : decode cX11_plain 5 = .ok (.aload_n 0, 1) := by decide +kernel
theorem dX11_plain_6 : decode cX11_plain 6 = .ok (.getfield 41, 3) := by decide +kernel
theorem dX11_plain_9 : decode cX11_plain 9 = .ok (.iload_n 1, 1) := by decide +kernel
theorem dX11_plain_10 : decode cX11_plain 10 = .ok (.iaload, 1) := by decide +kernel
theorem dX11_plain_11 : decode cX11_plain 11 = .ok (.if_icmp .ge 43, 3) := by decide +kernel
theorem dX11_plain_14 : decode cX11_plain 14 = .ok (.aload_n 0, 1) := by decide +kernel
theorem dX11_plain_15 : decode cX11_plain 15 = .ok (.getfield 104, 3) := by decide +kernel
theorem dX11_plain_18 : decode cX11_plain 18 = .ok (.iload 5, 2) := by decide +kernel
theorem dX11_plain_20 : decode cX11_plain 20 = .ok (.aload_n 0, 1) := by decide +kernel
theorem dX11_plain_21 : decode cX11_plain 21 = .ok (.iload_n 1, 1) := by decide +kernel
theorem dX11_plain_22 : decode cX11_plain 22 = .ok (.iload 5, 2) := by decide +kernel
theorem dX11_plain_24 : decode cX11_plain 24 = .ok (.invokevirtual 294, 3) := by decide +kernel
theorem dX11_plain_27 : decode cX11_plain 27 = .ok (.ifCond .eq 15, 3) := by decide +kernel
theorem dX11_plain_30 : decode cX11_plain 30 = .ok (.aload_n 0, 1) := by decide +kernel
theorem dX11_plain_31 : decode cX11_plain 31 = .ok (.iload_n 1, 1) := by decide +kernel
theorem dX11_plain_32 : decode cX11_plain 32 = .ok (.iload 5, 2) := by decide +kernel
theorem dX11_plain_34 : decode cX11_plain 34 = .ok (.invokevirtual 297, 3) := by decide +kernel
theorem dX11_plain_37 : decode cX11_plain 37 = .ok (.lload_n 2, 1) := by decide +kernel
theorem dX11_plain_38 : decode cX11_plain 38 = .ok (.lcmp, 1) := by decide +kernel
theorem dX11_plain_39 : decode cX11_plain 39 = .ok (.ifCond .le 7, 3) := by decide +kernel
theorem dX11_plain_42 : decode cX11_plain 42 = .ok (.iconst 1, 1) := by decide +kernel
theorem dX11_plain_43 : decode cX11_plain 43 = .ok (.goto 4, 3) := by decide +kernel
theorem dX11_plain_46 : decode cX11_plain 46 = .ok (.iconst 0, 1) := by decide +kernel
theorem dX11_plain_47 : decode cX11_plain 47 = .ok (.bastore, 1) := by decide +kernel
theorem dX11_plain_48 : decode cX11_plain 48 = .ok (.iinc 5 1, 3) := by decide +kernel
theorem dX11_plain_51 : decode cX11_plain 51 = .ok (.goto (-48), 3) := by decide +kernel
theorem dX11_plain_54 : decode cX11_plain 54 = .ok (.iconst (-1), 1) := by decide +kernel
theorem dX11_plain_55 : decode cX11_plain 55 = .ok (.istore 5, 2) := by decide +kernel
theorem dX11_plain_57 : decode cX11_plain 57 = .ok (.iconst 0, 1) := by decide +kernel
theorem dX11_plain_58 : decode cX11_plain 58 = .ok (.istore 6, 2) := by decide +kernel
theorem dX11_plain_60 : decode cX11_plain 60 = .ok (.iload 6, 2) := by decide +kernel
theorem dX11_plain_62 : decode cX11_plain 62 = .ok (.aload_n 0, 1) := by decide +kernel
theorem dX11_plain_63 : decode cX11_plain 63 = .ok (.getfield 41, 3) := by decide +kernel
theorem dX11_plain_66 : decode cX11_plain 66 = .ok (.iload_n 1, 1) := by decide +kernel
theorem dX11_plain_67 : decode cX11_plain 67 = .ok (.iaload, 1) := by decide +kernel
theorem dX11_plain_68 : decode cX11_plain 68 = .ok (.if_icmp .ge 47, 3) := by decide +kernel
theorem dX11_plain_71 : decode cX11_plain 71 = .ok (.aload_n 0, 1) := by decide +kernel
theorem dX11_plain_72 : decode cX11_plain 72 = .ok (.getfield 104, 3) := by decide +kernel
theorem dX11_plain_75 : decode cX11_plain 75 = .ok (.iload 6, 2) := by decide +kernel
theorem dX11_plain_77 : decode cX11_plain 77 = .ok (.baload, 1) := by decide +kernel
theorem dX11_plain_78 : decode cX11_plain 78 = .ok (.ifCond .ne 31, 3) := by decide +kernel
theorem dX11_plain_81 : decode cX11_plain 81 = .ok (.iload 5, 2) := by decide +kernel
theorem dX11_plain_83 : decode cX11_plain 83 = .ok (.iconst (-1), 1) := by decide +kernel
theorem dX11_plain_84 : decode cX11_plain 84 = .ok (.if_icmp .eq 21, 3) := by decide +kernel
theorem dX11_plain_87 : decode cX11_plain 87 = .ok (.aload_n 0, 1) := by decide +kernel
theorem dX11_plain_88 : decode cX11_plain 88 = .ok (.iload_n 1, 1) := by decide +kernel
theorem dX11_plain_89 : decode cX11_plain 89 = .ok (.iload 6, 2) := by decide +kernel
theorem dX11_plain_91 : decode cX11_plain 91 = .ok (.invokevirtual 297, 3) := by decide +kernel
theorem dX11_plain_94 : decode cX11_plain 94 = .ok (.aload_n 0, 1) := by decide +kernel
theorem dX11_plain_95 : decode cX11_plain 95 = .ok (.iload_n 1, 1) := by decide +kernel
theorem dX11_plain_96 : decode cX11_plain 96 = .ok (.iload 5, 2) := by decide +kernel
theorem dX11_plain_98 : decode cX11_plain 98 = .ok (.invokevirtual 297, 3) := by decide +kernel
theorem dX11_plain_101 : decode cX11_plain 101 = .ok (.lcmp, 1) := by decide +kernel
theorem dX11_plain_102 : decode cX11_plain 102 = .ok (.ifCond .ge 7, 3) := by decide +kernel
theorem dX11_plain_105 : decode cX11_plain 105 = .ok (.iload 6, 2) := by decide +kernel
theorem dX11_plain_107 : decode cX11_plain 107 = .ok (.istore 5, 2) := by decide +kernel
theorem dX11_plain_109 : decode cX11_plain 109 = .ok (.iinc 6 1, 3) := by decide +kernel
theorem dX11_plain_112 : decode cX11_plain 112 = .ok (.goto (-52), 3) := by decide +kernel
theorem dX11_plain_115 : decode cX11_plain 115 = .ok (.iload 5, 2) := by decide +kernel
theorem dX11_plain_117 : decode cX11_plain 117 = .ok (.iconst (-1), 1) := by decide +kernel
theorem dX11_plain_118 : decode cX11_plain 118 = .ok (.if_icmp .ne 5, 3) := by decide +kernel
theorem dX11_plain_121 : decode cX11_plain 121 = .ok (.iconst 0, 1) := by decide +kernel
theorem dX11_plain_122 : decode cX11_plain 122 = .ok (.ireturn, 1) := by decide +kernel
theorem dX11_plain_123 : decode cX11_plain 123 = .ok (.aload_n 0, 1) := by decide +kernel
theorem dX11_plain_124 : decode cX11_plain 124 = .ok (.getfield 44, 3) := by decide +kernel
theorem dX11_plain_127 : decode cX11_plain 127 = .ok (.bipush 40, 2) := by decide +kernel
theorem dX11_plain_129 : decode cX11_plain 129 = .ok (.iload_n 1, 1) := by decide +kernel
theorem dX11_plain_130 : decode cX11_plain 130 = .ok (.imul, 1) := by decide +kernel
theorem dX11_plain_131 : decode cX11_plain 131 = .ok (.iload 5, 2) := by decide +kernel
theorem dX11_plain_133 : decode cX11_plain 133 = .ok (.iadd, 1) := by decide +kernel
theorem dX11_plain_134 : decode cX11_plain 134 = .ok (.iaload, 1) := by decide +kernel
theorem dX11_plain_135 : decode cX11_plain 135 = .ok (.istore 6, 2) := by decide +kernel
theorem dX11_plain_137 : decode cX11_plain 137 = .ok (.aload_n 0, 1) := by decide +kernel
theorem dX11_plain_138 : decode cX11_plain 138 = .ok (.getfield 47, 3) := by decide +kernel
theorem dX11_plain_141 : decode cX11_plain 141 = .ok (.bipush 40, 2) := by decide +kernel
theorem dX11_plain_143 : decode cX11_plain 143 = .ok (.iload_n 1, 1) := by decide +kernel
theorem dX11_plain_144 : decode cX11_plain 144 = .ok (.imul, 1) := by decide +kernel
theorem dX11_plain_145 : decode cX11_plain 145 = .ok (.iload 5, 2) := by decide +kernel
theorem dX11_plain_147 : decode cX11_plain 147 = .ok (.iadd, 1) := by decide +kernel
theorem dX11_plain_148 : decode cX11_plain 148 = .ok (.iaload, 1) := by decide +kernel
theorem dX11_plain_149 : decode cX11_plain 149 = .ok (.istore 7, 2) := by decide +kernel
theorem dX11_plain_151 : decode cX11_plain 151 = .ok (.aload_n 0, 1) := by decide +kernel
theorem dX11_plain_152 : decode cX11_plain 152 = .ok (.iload_n 1, 1) := by decide +kernel
theorem dX11_plain_153 : decode cX11_plain 153 = .ok (.iload 5, 2) := by decide +kernel
theorem dX11_plain_155 : decode cX11_plain 155 = .ok (.invokevirtual 301, 3) := by decide +kernel
theorem dX11_plain_158 : decode cX11_plain 158 = .ok (.ifCond .eq 16, 3) := by decide +kernel
theorem dX11_plain_161 : decode cX11_plain 161 = .ok (.aload_n 0, 1) := by decide +kernel
theorem dX11_plain_162 : decode cX11_plain 162 = .ok (.iload_n 1, 1) := by decide +kernel
theorem dX11_plain_163 : decode cX11_plain 163 = .ok (.iload 6, 2) := by decide +kernel
theorem dX11_plain_165 : decode cX11_plain 165 = .ok (.iload 7, 2) := by decide +kernel
theorem dX11_plain_167 : decode cX11_plain 167 = .ok (.iload 4, 2) := by decide +kernel
theorem dX11_plain_169 : decode cX11_plain 169 = .ok (.invokevirtual 304, 3) := by decide +kernel
theorem dX11_plain_172 : decode cX11_plain 172 = .ok (.iconst 1, 1) := by decide +kernel
theorem dX11_plain_173 : decode cX11_plain 173 = .ok (.ireturn, 1) := by decide +kernel
theorem dX11_plain_174 : decode cX11_plain 174 = .ok (.aload_n 0, 1) := by decide +kernel
theorem dX11_plain_175 : decode cX11_plain 175 = .ok (.getfield 104, 3) := by decide +kernel
theorem dX11_plain_178 : decode cX11_plain 178 = .ok (.iload 5, 2) := by decide +kernel
theorem dX11_plain_180 : decode cX11_plain 180 = .ok (.iconst 1, 1) := by decide +kernel
theorem dX11_plain_181 : decode cX11_plain 181 = .ok (.bastore, 1) := by decide +kernel
theorem dX11_plain_182 : decode cX11_plain 182 = .ok (.goto (-128), 3) := by decide +kernel
theorem dX11_plainAll_0 : decode cX11_plainAll 0 = .ok (.iconst 0, 1) := by decide +kernel
theorem dX11_plainAll_1 : decode cX11_plainAll 1 = .ok (.istore 4, 2) := by decide +kernel
theorem dX11_plainAll_3 : decode cX11_plainAll 3 = .ok (.aload_n 0, 1) := by decide +kernel
theorem dX11_plainAll_4 : decode cX11_plainAll 4 = .ok (.iload_n 1, 1) := by decide +kernel
theorem dX11_plainAll_5 : decode cX11_plainAll 5 = .ok (.iload_n 2, 1) := by decide +kernel
theorem dX11_plainAll_6 : decode cX11_plainAll 6 = .ok (.i2l, 1) := by decide +kernel
theorem dX11_plainAll_7 : decode cX11_plainAll 7 = .ok (.iload_n 3, 1) := by decide +kernel
theorem dX11_plainAll_8 : decode cX11_plainAll 8 = .ok (.invokevirtual 308, 3) := by decide +kernel
theorem dX11_plainAll_11 : decode cX11_plainAll 11 = .ok (.ifCond .eq 9, 3) := by decide +kernel
theorem dX11_plainAll_14 : decode cX11_plainAll 14 = .ok (.iinc 4 1, 3) := by decide +kernel
theorem dX11_plainAll_17 : decode cX11_plainAll 17 = .ok (.goto (-14), 3) := by decide +kernel
theorem dX11_plainAll_20 : decode cX11_plainAll 20 = .ok (.iload 4, 2) := by decide +kernel
theorem dX11_plainAll_22 : decode cX11_plainAll 22 = .ok (.ireturn, 1) := by decide +kernel
theorem dX11_wrong_0 : decode cX11_wrong 0 = .ok (.aload_n 0, 1) := by decide +kernel
theorem dX11_wrong_1 : decode cX11_wrong 1 = .ok (.iload_n 1, 1) := by decide +kernel
theorem dX11_wrong_2 : decode cX11_wrong 2 = .ok (.invokevirtual 133, 3) := by decide +kernel
theorem dX11_wrong_5 : decode cX11_wrong 5 = .ok (.ifCond .ne 7, 3) := by decide +kernel
theorem dX11_wrong_8 : decode cX11_wrong 8 = .ok (.iconst 1, 1) := by decide +kernel
theorem dX11_wrong_9 : decode cX11_wrong 9 = .ok (.goto 18, 3) := by decide +kernel
theorem dX11_wrong_12 : decode cX11_wrong 12 = .ok (.aload_n 0, 1) := by decide +kernel
theorem dX11_wrong_13 : decode cX11_wrong 13 = .ok (.getfield 22, 3) := by decide +kernel
theorem dX11_wrong_16 : decode cX11_wrong 16 = .ok (.iload_n 1, 1) := by decide +kernel
theorem dX11_wrong_17 : decode cX11_wrong 17 = .ok (.iaload, 1) := by decide +kernel
theorem dX11_wrong_18 : decode cX11_wrong 18 = .ok (.iconst 1, 1) := by decide +kernel
theorem dX11_wrong_19 : decode cX11_wrong 19 = .ok (.if_icmp .eq 7, 3) := by decide +kernel
theorem dX11_wrong_22 : decode cX11_wrong 22 = .ok (.iconst 2, 1) := by decide +kernel
theorem dX11_wrong_23 : decode cX11_wrong 23 = .ok (.goto 4, 3) := by decide +kernel
theorem dX11_wrong_26 : decode cX11_wrong 26 = .ok (.iconst 0, 1) := by decide +kernel
theorem dX11_wrong_27 : decode cX11_wrong 27 = .ok (.ireturn, 1) := by decide +kernel
theorem dX11_isPlainable_0 : decode cX11_isPlainable 0 = .ok (.aload_n 0, 1) := by decide +kernel
theorem dX11_isPlainable_1 : decode cX11_isPlainable 1 = .ok (.getfield 7, 3) := by decide +kernel
theorem dX11_isPlainable_4 : decode cX11_isPlainable 4 = .ok (.iload_n 1, 1) := by decide +kernel
theorem dX11_isPlainable_5 : decode cX11_isPlainable 5 = .ok (.iaload, 1) := by decide +kernel
theorem dX11_isPlainable_6 : decode cX11_isPlainable 6 = .ok (.ifCond .eq 18, 3) := by decide +kernel
theorem dX11_isPlainable_9 : decode cX11_isPlainable 9 = .ok (.aload_n 0, 1) := by decide +kernel
theorem dX11_isPlainable_10 : decode cX11_isPlainable 10 = .ok (.getfield 7, 3) := by decide +kernel
theorem dX11_isPlainable_13 : decode cX11_isPlainable 13 = .ok (.iload_n 1, 1) := by decide +kernel
theorem dX11_isPlainable_14 : decode cX11_isPlainable 14 = .ok (.iaload, 1) := by decide +kernel
theorem dX11_isPlainable_15 : decode cX11_isPlainable 15 = .ok (.bipush 6, 2) := by decide +kernel
theorem dX11_isPlainable_17 : decode cX11_isPlainable 17 = .ok (.if_icmp .eq 7, 3) := by decide +kernel
theorem dX11_isPlainable_20 : decode cX11_isPlainable 20 = .ok (.iconst 1, 1) := by decide +kernel
theorem dX11_isPlainable_21 : decode cX11_isPlainable 21 = .ok (.goto 4, 3) := by decide +kernel
theorem dX11_isPlainable_24 : decode cX11_isPlainable 24 = .ok (.iconst 0, 1) := by decide +kernel
theorem dX11_isPlainable_25 : decode cX11_isPlainable 25 = .ok (.ireturn, 1) := by decide +kernel
theorem dX11_plainer_0 : decode cX11_plainer 0 = .ok (.aload_n 0, 1) := by decide +kernel
theorem dX11_plainer_1 : decode cX11_plainer 1 = .ok (.iload_n 1, 1) := by decide +kernel
theorem dX11_plainer_2 : decode cX11_plainer 2 = .ok (.invokevirtual 312, 3) := by decide +kernel
theorem dX11_plainer_5 : decode cX11_plainer 5 = .ok (.istore_n 3, 1) := by decide +kernel
theorem dX11_plainer_6 : decode cX11_plainer 6 = .ok (.iload_n 3, 1) := by decide +kernel
theorem dX11_plainer_7 : decode cX11_plainer 7 = .ok (.ifCond .le 7, 3) := by decide +kernel
theorem dX11_plainer_10 : decode cX11_plainer 10 = .ok (.iload_n 3, 1) := by decide +kernel
theorem dX11_plainer_11 : decode cX11_plainer 11 = .ok (.goto 37, 3) := by decide +kernel
theorem dX11_plainer_14 : decode cX11_plainer 14 = .ok (.aload_n 0, 1) := by decide +kernel
theorem dX11_plainer_15 : decode cX11_plainer 15 = .ok (.iload_n 1, 1) := by decide +kernel
theorem dX11_plainer_16 : decode cX11_plainer 16 = .ok (.invokevirtual 315, 3) := by decide +kernel
theorem dX11_plainer_19 : decode cX11_plainer 19 = .ok (.ifCond .ne 7, 3) := by decide +kernel
theorem dX11_plainer_22 : decode cX11_plainer 22 = .ok (.iconst 3, 1) := by decide +kernel
theorem dX11_plainer_23 : decode cX11_plainer 23 = .ok (.goto 25, 3) := by decide +kernel
theorem dX11_plainer_26 : decode cX11_plainer 26 = .ok (.iload_n 2, 1) := by decide +kernel
theorem dX11_plainer_27 : decode cX11_plainer 27 = .ok (.ifCond .ge 7, 3) := by decide +kernel
theorem dX11_plainer_30 : decode cX11_plainer 30 = .ok (.iconst 4, 1) := by decide +kernel
theorem dX11_plainer_31 : decode cX11_plainer 31 = .ok (.goto 17, 3) := by decide +kernel
theorem dX11_plainer_34 : decode cX11_plainer 34 = .ok (.aload_n 0, 1) := by decide +kernel
theorem dX11_plainer_35 : decode cX11_plainer 35 = .ok (.getfield 25, 3) := by decide +kernel
theorem dX11_plainer_38 : decode cX11_plainer 38 = .ok (.iload_n 1, 1) := by decide +kernel
theorem dX11_plainer_39 : decode cX11_plainer 39 = .ok (.baload, 1) := by decide +kernel
theorem dX11_plainer_40 : decode cX11_plainer 40 = .ok (.ifCond .eq 7, 3) := by decide +kernel
theorem dX11_plainer_43 : decode cX11_plainer 43 = .ok (.iconst 5, 1) := by decide +kernel
theorem dX11_plainer_44 : decode cX11_plainer 44 = .ok (.goto 4, 3) := by decide +kernel
theorem dX11_plainer_47 : decode cX11_plainer 47 = .ok (.iconst 0, 1) := by decide +kernel
theorem dX11_plainer_48 : decode cX11_plainer 48 = .ok (.istore_n 3, 1) := by decide +kernel
theorem dX11_plainer_49 : decode cX11_plainer 49 = .ok (.iload_n 3, 1) := by decide +kernel
theorem dX11_plainer_50 : decode cX11_plainer 50 = .ok (.ifCond .le 9, 3) := by decide +kernel
theorem dX11_plainer_53 : decode cX11_plainer 53 = .ok (.aload_n 0, 1) := by decide +kernel
theorem dX11_plainer_54 : decode cX11_plainer 54 = .ok (.iload_n 3, 1) := by decide +kernel
theorem dX11_plainer_55 : decode cX11_plainer 55 = .ok (.invokevirtual 126, 3) := by decide +kernel
theorem dX11_plainer_58 : decode cX11_plainer 58 = .ok (.ireturn, 1) := by decide +kernel
theorem dX11_plainer_59 : decode cX11_plainer 59 = .ok (.aload_n 0, 1) := by decide +kernel
theorem dX11_plainer_60 : decode cX11_plainer 60 = .ok (.iconst 1, 1) := by decide +kernel
theorem dX11_plainer_61 : decode cX11_plainer 61 = .ok (.iload_n 1, 1) := by decide +kernel
theorem dX11_plainer_62 : decode cX11_plainer 62 = .ok (.iload_n 2, 1) := by decide +kernel
theorem dX11_plainer_63 : decode cX11_plainer 63 = .ok (.invokevirtual 318, 3) := by decide +kernel
theorem dX11_plainer_66 : decode cX11_plainer 66 = .ok (.ireturn, 1) := by decide +kernel
theorem dX11_tell_0 : decode cX11_tell 0 = .ok (.aload_n 0, 1) := by decide +kernel
theorem dX11_tell_1 : decode cX11_tell 1 = .ok (.invokevirtual 322, 3) := by decide +kernel
theorem dX11_tell_4 : decode cX11_tell 4 = .ok (.iconst 0, 1) := by decide +kernel
theorem dX11_tell_5 : decode cX11_tell 5 = .ok (.istore 4, 2) := by decide +kernel
theorem dX11_tell_7 : decode cX11_tell 7 = .ok (.aload_n 0, 1) := by decide +kernel
theorem dX11_tell_8 : decode cX11_tell 8 = .ok (.getfield 279, 3) := by decide +kernel
theorem dX11_tell_11 : decode cX11_tell 11 = .ok (.istore 5, 2) := by decide +kernel
theorem dX11_tell_13 : decode cX11_tell 13 = .ok (.iload_n 1, 1) := by decide +kernel
theorem dX11_tell_14 : decode cX11_tell 14 = .ok (.iconst 1, 1) := by decide +kernel
theorem dX11_tell_15 : decode cX11_tell 15 = .ok (.if_icmp .ne 20, 3) := by decide +kernel
theorem dX11_tell_18 : decode cX11_tell 18 = .ok (.aload_n 0, 1) := by decide +kernel
theorem dX11_tell_19 : decode cX11_tell 19 = .ok (.iload_n 2, 1) := by decide +kernel
theorem dX11_tell_20 : decode cX11_tell 20 = .ok (.iload_n 3, 1) := by decide +kernel
theorem dX11_tell_21 : decode cX11_tell 21 = .ok (.aload_n 0, 1) := by decide +kernel
theorem dX11_tell_22 : decode cX11_tell 22 = .ok (.getfield 257, 3) := by decide +kernel
theorem dX11_tell_25 : decode cX11_tell 25 = .ok (.iconst 1, 1) := by decide +kernel
theorem dX11_tell_26 : decode cX11_tell 26 = .ok (.iadd, 1) := by decide +kernel
theorem dX11_tell_27 : decode cX11_tell 27 = .ok (.invokevirtual 325, 3) := by decide +kernel
theorem dX11_tell_30 : decode cX11_tell 30 = .ok (.istore 4, 2) := by decide +kernel
theorem dX11_tell_32 : decode cX11_tell 32 = .ok (.goto 90, 3) := by decide +kernel
theorem dX11_tell_35 : decode cX11_tell 35 = .ok (.iconst 1, 1) := by decide +kernel
theorem dX11_tell_36 : decode cX11_tell 36 = .ok (.istore 6, 2) := by decide +kernel
theorem dX11_tell_38 : decode cX11_tell 38 = .ok (.iload 6, 2) := by decide +kernel
theorem dX11_tell_40 : decode cX11_tell 40 = .ok (.ifCond .eq 82, 3) := by decide +kernel
theorem dX11_tell_43 : decode cX11_tell 43 = .ok (.iload 4, 2) := by decide +kernel
theorem dX11_tell_45 : decode cX11_tell 45 = .ok (.istore 7, 2) := by decide +kernel
theorem dX11_tell_47 : decode cX11_tell 47 = .ok (.iconst 0, 1) := by decide +kernel
theorem dX11_tell_48 : decode cX11_tell 48 = .ok (.istore 8, 2) := by decide +kernel
theorem dX11_tell_50 : decode cX11_tell 50 = .ok (.iload 8, 2) := by decide +kernel
theorem dX11_tell_52 : decode cX11_tell 52 = .ok (.aload_n 0, 1) := by decide +kernel
theorem dX11_tell_53 : decode cX11_tell 53 = .ok (.getfield 130, 3) := by decide +kernel
theorem dX11_tell_56 : decode cX11_tell 56 = .ok (.if_icmp .ge 49, 3) := by decide +kernel
theorem dX11_tell_59 : decode cX11_tell 59 = .ok (.iload 4, 2) := by decide +kernel
theorem dX11_tell_61 : decode cX11_tell 61 = .ok (.aload_n 0, 1) := by decide +kernel
theorem dX11_tell_62 : decode cX11_tell 62 = .ok (.iload 8, 2) := by decide +kernel
theorem dX11_tell_64 : decode cX11_tell 64 = .ok (.invokevirtual 197, 3) := by decide +kernel
theorem dX11_tell_67 : decode cX11_tell 67 = .ok (.ifCond .eq 28, 3) := by decide +kernel
theorem dX11_tell_70 : decode cX11_tell 70 = .ok (.aload_n 0, 1) := by decide +kernel
theorem dX11_tell_71 : decode cX11_tell 71 = .ok (.iload 8, 2) := by decide +kernel
theorem dX11_tell_73 : decode cX11_tell 73 = .ok (.invokevirtual 315, 3) := by decide +kernel
theorem dX11_tell_76 : decode cX11_tell 76 = .ok (.ifCond .eq 19, 3) := by decide +kernel
theorem dX11_tell_79 : decode cX11_tell 79 = .ok (.aload_n 0, 1) := by decide +kernel
theorem dX11_tell_80 : decode cX11_tell 80 = .ok (.iload 8, 2) := by decide +kernel
theorem dX11_tell_82 : decode cX11_tell 82 = .ok (.iload_n 3, 1) := by decide +kernel
theorem dX11_tell_83 : decode cX11_tell 83 = .ok (.aload_n 0, 1) := by decide +kernel
theorem dX11_tell_84 : decode cX11_tell 84 = .ok (.getfield 257, 3) := by decide +kernel
theorem dX11_tell_87 : decode cX11_tell 87 = .ok (.iconst 1, 1) := by decide +kernel
theorem dX11_tell_88 : decode cX11_tell 88 = .ok (.iadd, 1) := by decide +kernel
theorem dX11_tell_89 : decode cX11_tell 89 = .ok (.invokevirtual 325, 3) := by decide +kernel
theorem dX11_tell_92 : decode cX11_tell 92 = .ok (.goto 4, 3) := by decide +kernel
theorem dX11_tell_95 : decode cX11_tell 95 = .ok (.iconst 0, 1) := by decide +kernel
theorem dX11_tell_96 : decode cX11_tell 96 = .ok (.iadd, 1) := by decide +kernel
theorem dX11_tell_97 : decode cX11_tell 97 = .ok (.istore 4, 2) := by decide +kernel
theorem dX11_tell_99 : decode cX11_tell 99 = .ok (.iinc 8 1, 3) := by decide +kernel
theorem dX11_tell_102 : decode cX11_tell 102 = .ok (.goto (-52), 3) := by decide +kernel
theorem dX11_tell_105 : decode cX11_tell 105 = .ok (.iload 4, 2) := by decide +kernel
theorem dX11_tell_107 : decode cX11_tell 107 = .ok (.iload 7, 2) := by decide +kernel
theorem dX11_tell_109 : decode cX11_tell 109 = .ok (.if_icmp .le 7, 3) := by decide +kernel
theorem dX11_tell_112 : decode cX11_tell 112 = .ok (.iconst 1, 1) := by decide +kernel
theorem dX11_tell_113 : decode cX11_tell 113 = .ok (.goto 4, 3) := by decide +kernel
theorem dX11_tell_116 : decode cX11_tell 116 = .ok (.iconst 0, 1) := by decide +kernel
theorem dX11_tell_117 : decode cX11_tell 117 = .ok (.istore 6, 2) := by decide +kernel
theorem dX11_tell_119 : decode cX11_tell 119 = .ok (.goto (-81), 3) := by decide +kernel
theorem dX11_tell_122 : decode cX11_tell 122 = .ok (.iload 4, 2) := by decide +kernel
theorem dX11_tell_124 : decode cX11_tell 124 = .ok (.ifCond .ne 10, 3) := by decide +kernel
theorem dX11_tell_127 : decode cX11_tell 127 = .ok (.aload_n 0, 1) := by decide +kernel
theorem dX11_tell_128 : decode cX11_tell 128 = .ok (.bipush 8, 2) := by decide +kernel
theorem dX11_tell_130 : decode cX11_tell 130 = .ok (.invokevirtual 126, 3) := by decide +kernel
theorem dX11_tell_133 : decode cX11_tell 133 = .ok (.ireturn, 1) := by decide +kernel
theorem dX11_tell_134 : decode cX11_tell 134 = .ok (.aload_n 0, 1) := by decide +kernel
theorem dX11_tell_135 : decode cX11_tell 135 = .ok (.iload 5, 2) := by decide +kernel
theorem dX11_tell_137 : decode cX11_tell 137 = .ok (.invokevirtual 328, 3) := by decide +kernel
theorem dX11_tell_140 : decode cX11_tell 140 = .ok (.aload_n 0, 1) := by decide +kernel
theorem dX11_tell_141 : decode cX11_tell 141 = .ok (.iload_n 1, 1) := by decide +kernel
theorem dX11_tell_142 : decode cX11_tell 142 = .ok (.iload_n 1, 1) := by decide +kernel
theorem dX11_tell_143 : decode cX11_tell 143 = .ok (.iconst 1, 1) := by decide +kernel
