theorem dX11_isWithin_15 : decode cX11_isWithin 15 = .ok (.i2l, 1) := by decide +kernel
theorem dX11_isWithin_16 : decode cX11_isWithin 16 = .ok (.iload_n 1, 1) := by decide +kernel
theorem dX11_isWithin_17 : decode cX11_isWithin 17 = .ok (.i2l, 1) := by decide +kernel
theorem dX11_isWithin_18 : decode cX11_isWithin 18 = .ok (.iload_n 2, 1) := by decide +kernel
theorem dX11_isWithin_19 : decode cX11_isWithin 19 = .ok (.i2l, 1) := by decide +kernel
theorem dX11_isWithin_20 : decode cX11_isWithin 20 = .ok (.invokestatic 140, 3) := by decide +kernel
theorem dX11_isWithin_23 : decode cX11_isWithin 23 = .ok (.invokestatic 153, 3) := by decide +kernel
theorem dX11_isWithin_26 : decode cX11_isWithin 26 = .ok (.istore_n 3, 1) := by decide +kernel
theorem dX11_isWithin_27 : decode cX11_isWithin 27 = .ok (.aload_n 0, 1) := by decide +kernel
theorem dX11_isWithin_28 : decode cX11_isWithin 28 = .ok (.iconst 2, 1) := by decide +kernel
theorem dX11_isWithin_29 : decode cX11_isWithin 29 = .ok (.iaload, 1) := by decide +kernel
theorem dX11_isWithin_30 : decode cX11_isWithin 30 = .ok (.i2l, 1) := by decide +kernel
theorem dX11_isWithin_31 : decode cX11_isWithin 31 = .ok (.aload_n 0, 1) := by decide +kernel
theorem dX11_isWithin_32 : decode cX11_isWithin 32 = .ok (.iconst 3, 1) := by decide +kernel
theorem dX11_isWithin_33 : decode cX11_isWithin 33 = .ok (.iaload, 1) := by decide +kernel
theorem dX11_isWithin_34 : decode cX11_isWithin 34 = .ok (.i2l, 1) := by decide +kernel
theorem dX11_isWithin_35 : decode cX11_isWithin 35 = .ok (.aload_n 0, 1) := by decide +kernel
theorem dX11_isWithin_36 : decode cX11_isWithin 36 = .ok (.iconst 4, 1) := by decide +kernel
theorem dX11_isWithin_37 : decode cX11_isWithin 37 = .ok (.iaload, 1) := by decide +kernel
theorem dX11_isWithin_38 : decode cX11_isWithin 38 = .ok (.i2l, 1) := by decide +kernel
theorem dX11_isWithin_39 : decode cX11_isWithin 39 = .ok (.aload_n 0, 1) := by decide +kernel
theorem dX11_isWithin_40 : decode cX11_isWithin 40 = .ok (.iconst 5, 1) := by decide +kernel
theorem dX11_isWithin_41 : decode cX11_isWithin 41 = .ok (.iaload, 1) := by decide +kernel
theorem dX11_isWithin_42 : decode cX11_isWithin 42 = .ok (.i2l, 1) := by decide +kernel
theorem dX11_isWithin_43 : decode cX11_isWithin 43 = .ok (.iload_n 1, 1) := by decide +kernel
theorem dX11_isWithin_44 : decode cX11_isWithin 44 = .ok (.i2l, 1) := by decide +kernel
theorem dX11_isWithin_45 : decode cX11_isWithin 45 = .ok (.iload_n 2, 1) := by decide +kernel
theorem dX11_isWithin_46 : decode cX11_isWithin 46 = .ok (.i2l, 1) := by decide +kernel
theorem dX11_isWithin_47 : decode cX11_isWithin 47 = .ok (.invokestatic 140, 3) := by decide +kernel
theorem dX11_isWithin_50 : decode cX11_isWithin 50 = .ok (.invokestatic 153, 3) := by decide +kernel
theorem dX11_isWithin_53 : decode cX11_isWithin 53 = .ok (.istore 4, 2) := by decide +kernel
theorem dX11_isWithin_55 : decode cX11_isWithin 55 = .ok (.aload_n 0, 1) := by decide +kernel
theorem dX11_isWithin_56 : decode cX11_isWithin 56 = .ok (.iconst 4, 1) := by decide +kernel
theorem dX11_isWithin_57 : decode cX11_isWithin 57 = .ok (.iaload, 1) := by decide +kernel
theorem dX11_isWithin_58 : decode cX11_isWithin 58 = .ok (.i2l, 1) := by decide +kernel
theorem dX11_isWithin_59 : decode cX11_isWithin 59 = .ok (.aload_n 0, 1) := by decide +kernel
theorem dX11_isWithin_60 : decode cX11_isWithin 60 = .ok (.iconst 5, 1) := by decide +kernel
theorem dX11_isWithin_61 : decode cX11_isWithin 61 = .ok (.iaload, 1) := by decide +kernel
theorem dX11_isWithin_62 : decode cX11_isWithin 62 = .ok (.i2l, 1) := by decide +kernel
theorem dX11_isWithin_63 : decode cX11_isWithin 63 = .ok (.aload_n 0, 1) := by decide +kernel
theorem dX11_isWithin_64 : decode cX11_isWithin 64 = .ok (.iconst 0, 1) := by decide +kernel
theorem dX11_isWithin_65 : decode cX11_isWithin 65 = .ok (.iaload, 1) := by decide +kernel
theorem dX11_isWithin_66 : decode cX11_isWithin 66 = .ok (.i2l, 1) := by decide +kernel
theorem dX11_isWithin_67 : decode cX11_isWithin 67 = .ok (.aload_n 0, 1) := by decide +kernel
theorem dX11_isWithin_68 : decode cX11_isWithin 68 = .ok (.iconst 1, 1) := by decide +kernel
theorem dX11_isWithin_69 : decode cX11_isWithin 69 = .ok (.iaload, 1) := by decide +kernel
theorem dX11_isWithin_70 : decode cX11_isWithin 70 = .ok (.i2l, 1) := by decide +kernel
theorem dX11_isWithin_71 : decode cX11_isWithin 71 = .ok (.iload_n 1, 1) := by decide +kernel
theorem dX11_isWithin_72 : decode cX11_isWithin 72 = .ok (.i2l, 1) := by decide +kernel
theorem dX11_isWithin_73 : decode cX11_isWithin 73 = .ok (.iload_n 2, 1) := by decide +kernel
theorem dX11_isWithin_74 : decode cX11_isWithin 74 = .ok (.i2l, 1) := by decide +kernel
theorem dX11_isWithin_75 : decode cX11_isWithin 75 = .ok (.invokestatic 140, 3) := by decide +kernel
theorem dX11_isWithin_78 : decode cX11_isWithin 78 = .ok (.invokestatic 153, 3) := by decide +kernel
theorem dX11_isWithin_81 : decode cX11_isWithin 81 = .ok (.istore 5, 2) := by decide +kernel
theorem dX11_isWithin_83 : decode cX11_isWithin 83 = .ok (.aload_n 0, 1) := by decide +kernel
theorem dX11_isWithin_84 : decode cX11_isWithin 84 = .ok (.iconst 0, 1) := by decide +kernel
theorem dX11_isWithin_85 : decode cX11_isWithin 85 = .ok (.iaload, 1) := by decide +kernel
theorem dX11_isWithin_86 : decode cX11_isWithin 86 = .ok (.i2l, 1) := by decide +kernel
theorem dX11_isWithin_87 : decode cX11_isWithin 87 = .ok (.aload_n 0, 1) := by decide +kernel
theorem dX11_isWithin_88 : decode cX11_isWithin 88 = .ok (.iconst 1, 1) := by decide +kernel
theorem dX11_isWithin_89 : decode cX11_isWithin 89 = .ok (.iaload, 1) := by decide +kernel
theorem dX11_isWithin_90 : decode cX11_isWithin 90 = .ok (.i2l, 1) := by decide +kernel
theorem dX11_isWithin_91 : decode cX11_isWithin 91 = .ok (.aload_n 0, 1) := by decide +kernel
theorem dX11_isWithin_92 : decode cX11_isWithin 92 = .ok (.iconst 2, 1) := by decide +kernel
theorem dX11_isWithin_93 : decode cX11_isWithin 93 = .ok (.iaload, 1) := by decide +kernel
theorem dX11_isWithin_94 : decode cX11_isWithin 94 = .ok (.i2l, 1) := by decide +kernel
theorem dX11_isWithin_95 : decode cX11_isWithin 95 = .ok (.aload_n 0, 1) := by decide +kernel
theorem dX11_isWithin_96 : decode cX11_isWithin 96 = .ok (.iconst 3, 1) := by decide +kernel
theorem dX11_isWithin_97 : decode cX11_isWithin 97 = .ok (.iaload, 1) := by decide +kernel
theorem dX11_isWithin_98 : decode cX11_isWithin 98 = .ok (.i2l, 1) := by decide +kernel
theorem dX11_isWithin_99 : decode cX11_isWithin 99 = .ok (.aload_n 0, 1) := by decide +kernel
theorem dX11_isWithin_100 : decode cX11_isWithin 100 = .ok (.iconst 4, 1) := by decide +kernel
theorem dX11_isWithin_101 : decode cX11_isWithin 101 = .ok (.iaload, 1) := by decide +kernel
theorem dX11_isWithin_102 : decode cX11_isWithin 102 = .ok (.i2l, 1) := by decide +kernel
theorem dX11_isWithin_103 : decode cX11_isWithin 103 = .ok (.aload_n 0, 1) := by decide +kernel
theorem dX11_isWithin_104 : decode cX11_isWithin 104 = .ok (.iconst 5, 1) := by decide +kernel
theorem dX11_isWithin_105 : decode cX11_isWithin 105 = .ok (.iaload, 1) := by decide +kernel
theorem dX11_isWithin_106 : decode cX11_isWithin 106 = .ok (.i2l, 1) := by decide +kernel
theorem dX11_isWithin_107 : decode cX11_isWithin 107 = .ok (.invokestatic 140, 3) := by decide +kernel
theorem dX11_isWithin_110 : decode cX11_isWithin 110 = .ok (.lconst 0, 1) := by decide +kernel
theorem dX11_isWithin_111 : decode cX11_isWithin 111 = .ok (.lcmp, 1) := by decide +kernel
theorem dX11_isWithin_112 : decode cX11_isWithin 112 = .ok (.ifCond .ne 69, 3) := by decide +kernel
theorem dX11_isWithin_115 : decode cX11_isWithin 115 = .ok (.aload_n 0, 1) := by decide +kernel
theorem dX11_isWithin_116 : decode cX11_isWithin 116 = .ok (.iconst 0, 1) := by decide +kernel
theorem dX11_isWithin_117 : decode cX11_isWithin 117 = .ok (.iaload, 1) := by decide +kernel
theorem dX11_isWithin_118 : decode cX11_isWithin 118 = .ok (.aload_n 0, 1) := by decide +kernel
theorem dX11_isWithin_119 : decode cX11_isWithin 119 = .ok (.iconst 1, 1) := by decide +kernel
theorem dX11_isWithin_120 : decode cX11_isWithin 120 = .ok (.iaload, 1) := by decide +kernel
theorem dX11_isWithin_121 : decode cX11_isWithin 121 = .ok (.aload_n 0, 1) := by decide +kernel
theorem dX11_isWithin_122 : decode cX11_isWithin 122 = .ok (.iconst 2, 1) := by decide +kernel
theorem dX11_isWithin_123 : decode cX11_isWithin 123 = .ok (.iaload, 1) := by decide +kernel
theorem dX11_isWithin_124 : decode cX11_isWithin 124 = .ok (.aload_n 0, 1) := by decide +kernel
theorem dX11_isWithin_125 : decode cX11_isWithin 125 = .ok (.iconst 3, 1) := by decide +kernel
theorem dX11_isWithin_126 : decode cX11_isWithin 126 = .ok (.iaload, 1) := by decide +kernel
theorem dX11_isWithin_127 : decode cX11_isWithin 127 = .ok (.iload_n 1, 1) := by decide +kernel
theorem dX11_isWithin_128 : decode cX11_isWithin 128 = .ok (.iload_n 2, 1) := by decide +kernel
theorem dX11_isWithin_129 : decode cX11_isWithin 129 = .ok (.invokestatic 157, 3) := by decide +kernel
theorem dX11_isWithin_132 : decode cX11_isWithin 132 = .ok (.ifCond .ne 43, 3) := by decide +kernel
theorem dX11_isWithin_135 : decode cX11_isWithin 135 = .ok (.aload_n 0, 1) := by decide +kernel
theorem dX11_isWithin_136 : decode cX11_isWithin 136 = .ok (.iconst 2, 1) := by decide +kernel
theorem dX11_isWithin_137 : decode cX11_isWithin 137 = .ok (.iaload, 1) := by decide +kernel
theorem dX11_isWithin_138 : decode cX11_isWithin 138 = .ok (.aload_n 0, 1) := by decide +kernel
theorem dX11_isWithin_139 : decode cX11_isWithin 139 = .ok (.iconst 3, 1) := by decide +kernel
theorem dX11_isWithin_140 : decode cX11_isWithin 140 = .ok (.iaload, 1) := by decide +kernel
theorem dX11_isWithin_141 : decode cX11_isWithin 141 = .ok (.aload_n 0, 1) := by decide +kernel
theorem dX11_isWithin_142 : decode cX11_isWithin 142 = .ok (.iconst 4, 1) := by decide +kernel
theorem dX11_isWithin_143 : decode cX11_isWithin 143 = .ok (.iaload, 1) := by decide +kernel
theorem dX11_isWithin_144 : decode cX11_isWithin 144 = .ok (.aload_n 0, 1) := by decide +kernel
theorem dX11_isWithin_145 : decode cX11_isWithin 145 = .ok (.iconst 5, 1) := by decide +kernel
theorem dX11_isWithin_146 : decode cX11_isWithin 146 = .ok (.iaload, 1) := by decide +kernel
theorem dX11_isWithin_147 : decode cX11_isWithin 147 = .ok (.iload_n 1, 1) := by decide +kernel
theorem dX11_isWithin_148 : decode cX11_isWithin 148 = .ok (.iload_n 2, 1) := by decide +kernel
theorem dX11_isWithin_149 : decode cX11_isWithin 149 = .ok (.invokestatic 157, 3) := by decide +kernel
theorem dX11_isWithin_152 : decode cX11_isWithin 152 = .ok (.ifCond .ne 23, 3) := by decide +kernel
theorem dX11_isWithin_155 : decode cX11_isWithin 155 = .ok (.aload_n 0, 1) := by decide +kernel
theorem dX11_isWithin_156 : decode cX11_isWithin 156 = .ok (.iconst 4, 1) := by decide +kernel
theorem dX11_isWithin_157 : decode cX11_isWithin 157 = .ok (.iaload, 1) := by decide +kernel
theorem dX11_isWithin_158 : decode cX11_isWithin 158 = .ok (.aload_n 0, 1) := by decide +kernel
theorem dX11_isWithin_159 : decode cX11_isWithin 159 = .ok (.iconst 5, 1) := by decide +kernel
theorem dX11_isWithin_160 : decode cX11_isWithin 160 = .ok (.iaload, 1) := by decide +kernel
theorem dX11_isWithin_161 : decode cX11_isWithin 161 = .ok (.aload_n 0, 1) := by decide +kernel
theorem dX11_isWithin_162 : decode cX11_isWithin 162 = .ok (.iconst 0, 1) := by decide +kernel
theorem dX11_isWithin_163 : decode cX11_isWithin 163 = .ok (.iaload, 1) := by decide +kernel
theorem dX11_isWithin_164 : decode cX11_isWithin 164 = .ok (.aload_n 0, 1) := by decide +kernel
theorem dX11_isWithin_165 : decode cX11_isWithin 165 = .ok (.iconst 1, 1) := by decide +kernel
theorem dX11_isWithin_166 : decode cX11_isWithin 166 = .ok (.iaload, 1) := by decide +kernel
theorem dX11_isWithin_167 : decode cX11_isWithin 167 = .ok (.iload_n 1, 1) := by decide +kernel
theorem dX11_isWithin_168 : decode cX11_isWithin 168 = .ok (.iload_n 2, 1) := by decide +kernel
theorem dX11_isWithin_169 : decode cX11_isWithin 169 = .ok (.invokestatic 157, 3) := by decide +kernel
theorem dX11_isWithin_172 : decode cX11_isWithin 172 = .ok (.ifCond .eq 7, 3) := by decide +kernel
theorem dX11_isWithin_175 : decode cX11_isWithin 175 = .ok (.iconst 1, 1) := by decide +kernel
theorem dX11_isWithin_176 : decode cX11_isWithin 176 = .ok (.goto 4, 3) := by decide +kernel
theorem dX11_isWithin_179 : decode cX11_isWithin 179 = .ok (.iconst 0, 1) := by decide +kernel
theorem dX11_isWithin_180 : decode cX11_isWithin 180 = .ok (.ireturn, 1) := by decide +kernel
theorem dX11_isWithin_181 : decode cX11_isWithin 181 = .ok (.iload_n 3, 1) := by decide +kernel
theorem dX11_isWithin_182 : decode cX11_isWithin 182 = .ok (.ifCond .lt 13, 3) := by decide +kernel
theorem dX11_isWithin_185 : decode cX11_isWithin 185 = .ok (.iload 4, 2) := by decide +kernel
theorem dX11_isWithin_187 : decode cX11_isWithin 187 = .ok (.ifCond .lt 8, 3) := by decide +kernel
theorem dX11_isWithin_190 : decode cX11_isWithin 190 = .ok (.iload 5, 2) := by decide +kernel
theorem dX11_isWithin_192 : decode cX11_isWithin 192 = .ok (.ifCond .ge 17, 3) := by decide +kernel
theorem dX11_isWithin_195 : decode cX11_isWithin 195 = .ok (.iload_n 3, 1) := by decide +kernel
theorem dX11_isWithin_196 : decode cX11_isWithin 196 = .ok (.ifCond .gt 17, 3) := by decide +kernel
theorem dX11_isWithin_199 : decode cX11_isWithin 199 = .ok (.iload 4, 2) := by decide +kernel
theorem dX11_isWithin_201 : decode cX11_isWithin 201 = .ok (.ifCond .gt 12, 3) := by decide +kernel
theorem dX11_isWithin_204 : decode cX11_isWithin 204 = .ok (.iload 5, 2) := by decide +kernel
theorem dX11_isWithin_206 : decode cX11_isWithin 206 = .ok (.ifCond .gt 7, 3) := by decide +kernel
theorem dX11_isWithin_209 : decode cX11_isWithin 209 = .ok (.iconst 1, 1) := by decide +kernel
theorem dX11_isWithin_210 : decode cX11_isWithin 210 = .ok (.goto 4, 3) := by decide +kernel
theorem dX11_isWithin_213 : decode cX11_isWithin 213 = .ok (.iconst 0, 1) := by decide +kernel
theorem dX11_isWithin_214 : decode cX11_isWithin 214 = .ok (.ireturn, 1) := by decide +kernel
theorem dX11_edgesOf_0 : decode cX11_edgesOf 0 = .ok (.aload_n 0, 1) := by decide +kernel
theorem dX11_edgesOf_1 : decode cX11_edgesOf 1 = .ok (.getfield 7, 3) := by decide +kernel
theorem dX11_edgesOf_4 : decode cX11_edgesOf 4 = .ok (.iload_n 1, 1) := by decide +kernel
theorem dX11_edgesOf_5 : decode cX11_edgesOf 5 = .ok (.iaload, 1) := by decide +kernel
theorem dX11_edgesOf_6 : decode cX11_edgesOf 6 = .ok (.ifCond .ne 7, 3) := by decide +kernel
theorem dX11_edgesOf_9 : decode cX11_edgesOf 9 = .ok (.iconst 1, 1) := by decide +kernel
theorem dX11_edgesOf_10 : decode cX11_edgesOf 10 = .ok (.goto 28, 3) := by decide +kernel
theorem dX11_edgesOf_13 : decode cX11_edgesOf 13 = .ok (.aload_n 0, 1) := by decide +kernel
theorem dX11_edgesOf_14 : decode cX11_edgesOf 14 = .ok (.iload_n 1, 1) := by decide +kernel
theorem dX11_edgesOf_15 : decode cX11_edgesOf 15 = .ok (.invokevirtual 161, 3) := by decide +kernel
theorem dX11_edgesOf_18 : decode cX11_edgesOf 18 = .ok (.ifCond .eq 12, 3) := by decide +kernel
theorem dX11_edgesOf_21 : decode cX11_edgesOf 21 = .ok (.aload_n 0, 1) := by decide +kernel
theorem dX11_edgesOf_22 : decode cX11_edgesOf 22 = .ok (.getfield 41, 3) := by decide +kernel
theorem dX11_edgesOf_25 : decode cX11_edgesOf 25 = .ok (.iload_n 1, 1) := by decide +kernel
theorem dX11_edgesOf_26 : decode cX11_edgesOf 26 = .ok (.iaload, 1) := by decide +kernel
theorem dX11_edgesOf_27 : decode cX11_edgesOf 27 = .ok (.goto 11, 3) := by decide +kernel
theorem dX11_edgesOf_30 : decode cX11_edgesOf 30 = .ok (.aload_n 0, 1) := by decide +kernel
theorem dX11_edgesOf_31 : decode cX11_edgesOf 31 = .ok (.getfield 41, 3) := by decide +kernel
theorem dX11_edgesOf_34 : decode cX11_edgesOf 34 = .ok (.iload_n 1, 1) := by decide +kernel
theorem dX11_edgesOf_35 : decode cX11_edgesOf 35 = .ok (.iaload, 1) := by decide +kernel
theorem dX11_edgesOf_36 : decode cX11_edgesOf 36 = .ok (.iconst 1, 1) := by decide +kernel
theorem dX11_edgesOf_37 : decode cX11_edgesOf 37 = .ok (.isub, 1) := by decide +kernel
theorem dX11_edgesOf_38 : decode cX11_edgesOf 38 = .ok (.ireturn, 1) := by decide +kernel
theorem dX11_edge_0 : decode cX11_edge 0 = .ok (.bipush 40, 2) := by decide +kernel
theorem dX11_edge_2 : decode cX11_edge 2 = .ok (.iload_n 1, 1) := by decide +kernel
theorem dX11_edge_3 : decode cX11_edge 3 = .ok (.imul, 1) := by decide +kernel
theorem dX11_edge_4 : decode cX11_edge 4 = .ok (.iload_n 2, 1) := by decide +kernel
theorem dX11_edge_5 : decode cX11_edge 5 = .ok (.iadd, 1) := by decide +kernel
theorem dX11_edge_6 : decode cX11_edge 6 = .ok (.istore 4, 2) := by decide +kernel
theorem dX11_edge_8 : decode cX11_edge 8 = .ok (.bipush 40, 2) := by decide +kernel
theorem dX11_edge_10 : decode cX11_edge 10 = .ok (.iload_n 1, 1) := by decide +kernel
theorem dX11_edge_11 : decode cX11_edge 11 = .ok (.imul, 1) := by decide +kernel
theorem dX11_edge_12 : decode cX11_edge 12 = .ok (.iload_n 2, 1) := by decide +kernel
theorem dX11_edge_13 : decode cX11_edge 13 = .ok (.iconst 1, 1) := by decide +kernel
theorem dX11_edge_14 : decode cX11_edge 14 = .ok (.iadd, 1) := by decide +kernel
theorem dX11_edge_15 : decode cX11_edge 15 = .ok (.aload_n 0, 1) := by decide +kernel
theorem dX11_edge_16 : decode cX11_edge 16 = .ok (.getfield 41, 3) := by decide +kernel
theorem dX11_edge_19 : decode cX11_edge 19 = .ok (.iload_n 1, 1) := by decide +kernel
theorem dX11_edge_20 : decode cX11_edge 20 = .ok (.iaload, 1) := by decide +kernel
theorem dX11_edge_21 : decode cX11_edge 21 = .ok (.if_icmp .ne 7, 3) := by decide +kernel
theorem dX11_edge_24 : decode cX11_edge 24 = .ok (.iconst 0, 1) := by decide +kernel
theorem dX11_edge_25 : decode cX11_edge 25 = .ok (.goto 6, 3) := by decide +kernel
theorem dX11_edge_28 : decode cX11_edge 28 = .ok (.iload_n 2, 1) := by decide +kernel
theorem dX11_edge_29 : decode cX11_edge 29 = .ok (.iconst 1, 1) := by decide +kernel
theorem dX11_edge_30 : decode cX11_edge 30 = .ok (.iadd, 1) := by decide +kernel
theorem dX11_edge_31 : decode cX11_edge 31 = .ok (.iadd, 1) := by decide +kernel
theorem dX11_edge_32 : decode cX11_edge 32 = .ok (.istore 5, 2) := by decide +kernel
theorem dX11_edge_34 : decode cX11_edge 34 = .ok (.aload_n 0, 1) := by decide +kernel
theorem dX11_edge_35 : decode cX11_edge 35 = .ok (.getfield 83, 3) := by decide +kernel
theorem dX11_edge_38 : decode cX11_edge 38 = .ok (.iload_n 3, 1) := by decide +kernel
theorem dX11_edge_39 : decode cX11_edge 39 = .ok (.aload_n 0, 1) := by decide +kernel
theorem dX11_edge_40 : decode cX11_edge 40 = .ok (.getfield 44, 3) := by decide +kernel
theorem dX11_edge_43 : decode cX11_edge 43 = .ok (.iload 4, 2) := by decide +kernel
theorem dX11_edge_45 : decode cX11_edge 45 = .ok (.iaload, 1) := by decide +kernel
theorem dX11_edge_46 : decode cX11_edge 46 = .ok (.iastore, 1) := by decide +kernel
theorem dX11_edge_47 : decode cX11_edge 47 = .ok (.aload_n 0, 1) := by decide +kernel
theorem dX11_edge_48 : decode cX11_edge 48 = .ok (.getfield 83, 3) := by decide +kernel
theorem dX11_edge_51 : decode cX11_edge 51 = .ok (.iload_n 3, 1) := by decide +kernel
theorem dX11_edge_52 : decode cX11_edge 52 = .ok (.iconst 1, 1) := by decide +kernel
theorem dX11_edge_53 : decode cX11_edge 53 = .ok (.iadd, 1) := by decide +kernel
theorem dX11_edge_54 : decode cX11_edge 54 = .ok (.aload_n 0, 1) := by decide +kernel
theorem dX11_edge_55 : decode cX11_edge 55 = .ok (.getfield 47, 3) := by decide +kernel
theorem dX11_edge_58 : decode cX11_edge 58 = .ok (.iload 4, 2) := by decide +kernel
theorem dX11_edge_60 : decode cX11_edge 60 = .ok (.iaload, 1) := by decide +kernel
theorem dX11_edge_61 : decode cX11_edge 61 = .ok (.iastore, 1) := by decide +kernel
theorem dX11_edge_62 : decode cX11_edge 62 = .ok (.aload_n 0, 1) := by decide +kernel
theorem dX11_edge_63 : decode cX11_edge 63 = .ok (.getfield 83, 3) := by decide +kernel
theorem dX11_edge_66 : decode cX11_edge 66 = .ok (.iload_n 3, 1) := by decide +kernel
theorem dX11_edge_67 : decode cX11_edge 67 = .ok (.iconst 2, 1) := by decide +kernel
theorem dX11_edge_68 : decode cX11_edge 68 = .ok (.iadd, 1) := by decide +kernel
theorem dX11_edge_69 : decode cX11_edge 69 = .ok (.aload_n 0, 1) := by decide +kernel
theorem dX11_edge_70 : decode cX11_edge 70 = .ok (.getfield 44, 3) := by decide +kernel
theorem dX11_edge_73 : decode cX11_edge 73 = .ok (.iload 5, 2) := by decide +kernel
theorem dX11_edge_75 : decode cX11_edge 75 = .ok (.iaload, 1) := by decide +kernel
theorem dX11_edge_76 : decode cX11_edge 76 = .ok (.iastore, 1) := by decide +kernel
theorem dX11_edge_77 : decode cX11_edge 77 = .ok (.aload_n 0, 1) := by decide +kernel
theorem dX11_edge_78 : decode cX11_edge 78 = .ok (.getfield 83, 3) := by decide +kernel
theorem dX11_edge_81 : decode cX11_edge 81 = .ok (.iload_n 3, 1) := by decide +kernel
theorem dX11_edge_82 : decode cX11_edge 82 = .ok (.iconst 3, 1) := by decide +kernel
theorem dX11_edge_83 : decode cX11_edge 83 = .ok (.iadd, 1) := by decide +kernel
theorem dX11_edge_84 : decode cX11_edge 84 = .ok (.aload_n 0, 1) := by decide +kernel
theorem dX11_edge_85 : decode cX11_edge 85 = .ok (.getfield 47, 3) := by decide +kernel
theorem dX11_edge_88 : decode cX11_edge 88 = .ok (.iload 5, 2) := by decide +kernel
theorem dX11_edge_90 : decode cX11_edge 90 = .ok (.iaload, 1) := by decide +kernel
theorem dX11_edge_91 : decode cX11_edge 91 = .ok (.iastore, 1) := by decide +kernel
theorem dX11_edge_92 : decode cX11_edge 92 = .ok (.return_, 1) := by decide +kernel
theorem dX11_isMet_0 : decode cX11_isMet 0 = .ok (.iconst 0, 1) := by decide +kernel
theorem dX11_isMet_1 : decode cX11_isMet 1 = .ok (.istore_n 3, 1) := by decide +kernel
theorem dX11_isMet_2 : decode cX11_isMet 2 = .ok (.iload_n 3, 1) := by decide +kernel
theorem dX11_isMet_3 : decode cX11_isMet 3 = .ok (.aload_n 0, 1) := by decide +kernel
theorem dX11_isMet_4 : decode cX11_isMet 4 = .ok (.iload_n 1, 1) := by decide +kernel
theorem dX11_isMet_5 : decode cX11_isMet 5 = .ok (.invokevirtual 164, 3) := by decide +kernel
theorem dX11_isMet_8 : decode cX11_isMet 8 = .ok (.if_icmp .ge 55, 3) := by decide +kernel
theorem dX11_isMet_11 : decode cX11_isMet 11 = .ok (.aload_n 0, 1) := by decide +kernel
theorem dX11_isMet_12 : decode cX11_isMet 12 = .ok (.iload_n 1, 1) := by decide +kernel
theorem dX11_isMet_13 : decode cX11_isMet 13 = .ok (.iload_n 3, 1) := by decide +kernel
theorem dX11_isMet_14 : decode cX11_isMet 14 = .ok (.iconst 0, 1) := by decide +kernel
theorem dX11_isMet_15 : decode cX11_isMet 15 = .ok (.invokevirtual 167, 3) := by decide +kernel
theorem dX11_isMet_18 : decode cX11_isMet 18 = .ok (.iconst 0, 1) := by decide +kernel
theorem dX11_isMet_19 : decode cX11_isMet 19 = .ok (.istore 4, 2) := by decide +kernel
theorem dX11_isMet_21 : decode cX11_isMet 21 = .ok (.iload 4, 2) := by decide +kernel
theorem dX11_isMet_23 : decode cX11_isMet 23 = .ok (.aload_n 0, 1) := by decide +kernel
theorem dX11_isMet_24 : decode cX11_isMet 24 = .ok (.iload_n 2, 1) := by decide +kernel
theorem dX11_isMet_25 : decode cX11_isMet 25 = .ok (.invokevirtual 164, 3) := by decide +kernel
theorem dX11_isMet_28 : decode cX11_isMet 28 = .ok (.if_icmp .ge 29, 3) := by decide +kernel
theorem dX11_isMet_31 : decode cX11_isMet 31 = .ok (.aload_n 0, 1) := by decide +kernel
theorem dX11_isMet_32 : decode cX11_isMet 32 = .ok (.iload_n 2, 1) := by decide +kernel
theorem dX11_isMet_33 : decode cX11_isMet 33 = .ok (.iload 4, 2) := by decide +kernel
theorem dX11_isMet_35 : decode cX11_isMet 35 = .ok (.iconst 4, 1) := by decide +kernel
theorem dX11_isMet_36 : decode cX11_isMet 36 = .ok (.invokevirtual 167, 3) := by decide +kernel
theorem dX11_isMet_39 : decode cX11_isMet 39 = .ok (.aload_n 0, 1) := by decide +kernel
theorem dX11_isMet_40 : decode cX11_isMet 40 = .ok (.getfield 83, 3) := by decide +kernel
theorem dX11_isMet_43 : decode cX11_isMet 43 = .ok (.invokestatic 171, 3) := by decide +kernel
theorem dX11_isMet_46 : decode cX11_isMet 46 = .ok (.ifCond .eq 5, 3) := by decide +kernel
theorem dX11_isMet_49 : decode cX11_isMet 49 = .ok (.iconst 1, 1) := by decide +kernel
theorem dX11_isMet_50 : decode cX11_isMet 50 = .ok (.ireturn, 1) := by decide +kernel
theorem dX11_isMet_51 : decode cX11_isMet 51 = .ok (.iinc 4 1, 3) := by decide +kernel
theorem dX11_isMet_54 : decode cX11_isMet 54 = .ok (.goto (-33), 3) := by decide +kernel
theorem dX11_isMet_57 : decode cX11_isMet 57 = .ok (.iinc 3 1, 3) := by decide +kernel
theorem dX11_isMet_60 : decode cX11_isMet 60 = .ok (.goto (-58), 3) := by decide +kernel
theorem dX11_isMet_63 : decode cX11_isMet 63 = .ok (.iconst 0, 1) := by decide +kernel
theorem dX11_isMet_64 : decode cX11_isMet 64 = .ok (.ireturn, 1) := by decide +kernel
theorem dX11_isOnSet_0 : decode cX11_isOnSet 0 = .ok (.iconst 0, 1) := by decide +kernel
theorem dX11_isOnSet_1 : decode cX11_isOnSet 1 = .ok (.istore 4, 2) := by decide +kernel
theorem dX11_isOnSet_3 : decode cX11_isOnSet 3 = .ok (.iload 4, 2) := by decide +kernel
theorem dX11_isOnSet_5 : decode cX11_isOnSet 5 = .ok (.aload_n 0, 1) := by decide +kernel
theorem dX11_isOnSet_6 : decode cX11_isOnSet 6 = .ok (.iload_n 1, 1) := by decide +kernel
theorem dX11_isOnSet_7 : decode cX11_isOnSet 7 = .ok (.invokevirtual 164, 3) := by decide +kernel
theorem dX11_isOnSet_10 : decode cX11_isOnSet 10 = .ok (.if_icmp .ge 51, 3) := by decide +kernel
theorem dX11_isOnSet_13 : decode cX11_isOnSet 13 = .ok (.aload_n 0, 1) := by decide +kernel
theorem dX11_isOnSet_14 : decode cX11_isOnSet 14 = .ok (.iload_n 1, 1) := by decide +kernel
theorem dX11_isOnSet_15 : decode cX11_isOnSet 15 = .ok (.iload 4, 2) := by decide +kernel
theorem dX11_isOnSet_17 : decode cX11_isOnSet 17 = .ok (.iconst 0, 1) := by decide +kernel
theorem dX11_isOnSet_18 : decode cX11_isOnSet 18 = .ok (.invokevirtual 167, 3) := by decide +kernel
theorem dX11_isOnSet_21 : decode cX11_isOnSet 21 = .ok (.aload_n 0, 1) := by decide +kernel
theorem dX11_isOnSet_22 : decode cX11_isOnSet 22 = .ok (.getfield 83, 3) := by decide +kernel
theorem dX11_isOnSet_25 : decode cX11_isOnSet 25 = .ok (.iconst 0, 1) := by decide +kernel
theorem dX11_isOnSet_26 : decode cX11_isOnSet 26 = .ok (.iaload, 1) := by decide +kernel
theorem dX11_isOnSet_27 : decode cX11_isOnSet 27 = .ok (.aload_n 0, 1) := by decide +kernel
theorem dX11_isOnSet_28 : decode cX11_isOnSet 28 = .ok (.getfield 83, 3) := by decide +kernel
theorem dX11_isOnSet_31 : decode cX11_isOnSet 31 = .ok (.iconst 1, 1) := by decide +kernel
theorem dX11_isOnSet_32 : decode cX11_isOnSet 32 = .ok (.iaload, 1) := by decide +kernel
theorem dX11_isOnSet_33 : decode cX11_isOnSet 33 = .ok (.aload_n 0, 1) := by decide +kernel
theorem dX11_isOnSet_34 : decode cX11_isOnSet 34 = .ok (.getfield 83, 3) := by decide +kernel
theorem dX11_isOnSet_37 : decode cX11_isOnSet 37 = .ok (.iconst 2, 1) := by decide +kernel
theorem dX11_isOnSet_38 : decode cX11_isOnSet 38 = .ok (.iaload, 1) := by decide +kernel
theorem dX11_isOnSet_39 : decode cX11_isOnSet 39 = .ok (.aload_n 0, 1) := by decide +kernel
theorem dX11_isOnSet_40 : decode cX11_isOnSet 40 = .ok (.getfield 83, 3) := by decide +kernel
theorem dX11_isOnSet_43 : decode cX11_isOnSet 43 = .ok (.iconst 3, 1) := by decide +kernel
theorem dX11_isOnSet_44 : decode cX11_isOnSet 44 = .ok (.iaload, 1) := by decide +kernel
theorem dX11_isOnSet_45 : decode cX11_isOnSet 45 = .ok (.iload_n 2, 1) := by decide +kernel
theorem dX11_isOnSet_46 : decode cX11_isOnSet 46 = .ok (.iload_n 3, 1) := by decide +kernel
theorem dX11_isOnSet_47 : decode cX11_isOnSet 47 = .ok (.invokestatic 157, 3) := by decide +kernel
theorem dX11_isOnSet_50 : decode cX11_isOnSet 50 = .ok (.ifCond .eq 5, 3) := by decide +kernel
theorem dX11_isOnSet_53 : decode cX11_isOnSet 53 = .ok (.iconst 1, 1) := by decide +kernel
theorem dX11_isOnSet_54 : decode cX11_isOnSet 54 = .ok (.ireturn, 1) := by decide +kernel
theorem dX11_isOnSet_55 : decode cX11_isOnSet 55 = .ok (.iinc 4 1, 3) := by decide +kernel
theorem dX11_isOnSet_58 : decode cX11_isOnSet 58 = .ok (.goto (-55), 3) := by decide +kernel
theorem dX11_isOnSet_61 : decode cX11_isOnSet 61 = .ok (.iconst 0, 1) := by decide +kernel
theorem dX11_isOnSet_62 : decode cX11_isOnSet 62 = .ok (.ireturn, 1) := by decide +kernel
theorem dX11_isInside_0 : decode cX11_isInside 0 = .ok (.aload_n 0, 1) := by decide +kernel
theorem dX11_isInside_1 : decode cX11_isInside 1 = .ok (.iload_n 1, 1) := by decide +kernel
theorem dX11_isInside_2 : decode cX11_isInside 2 = .ok (.iload_n 2, 1) := by decide +kernel
theorem dX11_isInside_3 : decode cX11_isInside 3 = .ok (.iload_n 3, 1) := by decide +kernel
theorem dX11_isInside_4 : decode cX11_isInside 4 = .ok (.invokevirtual 175, 3) := by decide +kernel
theorem dX11_isInside_7 : decode cX11_isInside 7 = .ok (.ifCond .eq 5, 3) := by decide +kernel
theorem dX11_isInside_10 : decode cX11_isInside 10 = .ok (.iconst 0, 1) := by decide +kernel
theorem dX11_isInside_11 : decode cX11_isInside 11 = .ok (.ireturn, 1) := by decide +kernel
theorem dX11_isInside_12 : decode cX11_isInside 12 = .ok (.iconst 0, 1) := by decide +kernel
theorem dX11_isInside_13 : decode cX11_isInside 13 = .ok (.istore 4, 2) := by decide +kernel
theorem dX11_isInside_15 : decode cX11_isInside 15 = .ok (.iconst 0, 1) := by decide +kernel
theorem dX11_isInside_16 : decode cX11_isInside 16 = .ok (.istore 5, 2) := by decide +kernel
theorem dX11_isInside_18 : decode cX11_isInside 18 = .ok (.iload 5, 2) := by decide +kernel
theorem dX11_isInside_20 : decode cX11_isInside 20 = .ok (.aload_n 0, 1) := by decide +kernel
theorem dX11_isInside_21 : decode cX11_isInside 21 = .ok (.iload_n 1, 1) := by decide +kernel
theorem dX11_isInside_22 : decode cX11_isInside 22 = .ok (.invokevirtual 164, 3) := by decide +kernel
theorem dX11_isInside_25 : decode cX11_isInside 25 = .ok (.if_icmp .ge 134, 3) := by decide +kernel
theorem dX11_isInside_28 : decode cX11_isInside 28 = .ok (.aload_n 0, 1) := by decide +kernel
theorem dX11_isInside_29 : decode cX11_isInside 29 = .ok (.iload_n 1, 1) := by decide +kernel
theorem dX11_isInside_30 : decode cX11_isInside 30 = .ok (.iload 5, 2) := by decide +kernel
theorem dX11_isInside_32 : decode cX11_isInside 32 = .ok (.iconst 0, 1) := by decide +kernel
theorem dX11_isInside_33 : decode cX11_isInside 33 = .ok (.invokevirtual 167, 3) := by decide +kernel
theorem dX11_isInside_36 : decode cX11_isInside 36 = .ok (.aload_n 0, 1) := by decide +kernel
theorem dX11_isInside_37 : decode cX11_isInside 37 = .ok (.getfield 83, 3) := by decide +kernel
theorem dX11_isInside_40 : decode cX11_isInside 40 = .ok (.iconst 1, 1) := by decide +kernel
theorem dX11_isInside_41 : decode cX11_isInside 41 = .ok (.iaload, 1) := by decide +kernel
theorem dX11_isInside_42 : decode cX11_isInside 42 = .ok (.iload_n 3, 1) := by decide +kernel
theorem dX11_isInside_43 : decode cX11_isInside 43 = .ok (.if_icmp .le 7, 3) := by decide +kernel
theorem dX11_isInside_46 : decode cX11_isInside 46 = .ok (.iconst 1, 1) := by decide +kernel
theorem dX11_isInside_47 : decode cX11_isInside 47 = .ok (.goto 4, 3) := by decide +kernel
theorem dX11_isInside_50 : decode cX11_isInside 50 = .ok (.iconst 0, 1) := by decide +kernel
theorem dX11_isInside_51 : decode cX11_isInside 51 = .ok (.aload_n 0, 1) := by decide +kernel
theorem dX11_isInside_52 : decode cX11_isInside 52 = .ok (.getfield 83, 3) := by decide +kernel
theorem dX11_isInside_55 : decode cX11_isInside 55 = .ok (.iconst 3, 1) := by decide +kernel
theorem dX11_isInside_56 : decode cX11_isInside 56 = .ok (.iaload, 1) := by decide +kernel
theorem dX11_isInside_57 : decode cX11_isInside 57 = .ok (.iload_n 3, 1) := by decide +kernel
theorem dX11_isInside_58 : decode cX11_isInside 58 = .ok (.if_icmp .le 7, 3) := by decide +kernel
theorem dX11_isInside_61 : decode cX11_isInside 61 = .ok (.iconst 1, 1) := by decide +kernel
theorem dX11_isInside_62 : decode cX11_isInside 62 = .ok (.goto 4, 3) := by decide +kernel
theorem dX11_isInside_65 : decode cX11_isInside 65 = .ok (.iconst 0, 1) := by decide +kernel
theorem dX11_isInside_66 : decode cX11_isInside 66 = .ok (.if_icmp .ne 6, 3) := by decide +kernel
theorem dX11_isInside_69 : decode cX11_isInside 69 = .ok (.goto 84, 3) := by decide +kernel
theorem dX11_isInside_72 : decode cX11_isInside 72 = .ok (.aload_n 0, 1) := by decide +kernel
theorem dX11_isInside_73 : decode cX11_isInside 73 = .ok (.getfield 83, 3) := by decide +kernel
theorem dX11_isInside_76 : decode cX11_isInside 76 = .ok (.iconst 0, 1) := by decide +kernel
theorem dX11_isInside_77 : decode cX11_isInside 77 = .ok (.iaload, 1) := by decide +kernel
theorem dX11_isInside_78 : decode cX11_isInside 78 = .ok (.i2l, 1) := by decide +kernel
theorem dX11_isInside_79 : decode cX11_isInside 79 = .ok (.aload_n 0, 1) := by decide +kernel
theorem dX11_isInside_80 : decode cX11_isInside 80 = .ok (.getfield 83, 3) := by decide +kernel
theorem dX11_isInside_83 : decode cX11_isInside 83 = .ok (.iconst 1, 1) := by decide +kernel
theorem dX11_isInside_84 : decode cX11_isInside 84 = .ok (.iaload, 1) := by decide +kernel
theorem dX11_isInside_85 : decode cX11_isInside 85 = .ok (.i2l, 1) := by decide +kernel
theorem dX11_isInside_86 : decode cX11_isInside 86 = .ok (.aload_n 0, 1) := by decide +kernel
theorem dX11_isInside_87 : decode cX11_isInside 87 = .ok (.getfield 83, 3) := by decide +kernel
theorem dX11_isInside_90 : decode cX11_isInside 90 = .ok (.iconst 2, 1) := by decide +kernel
theorem dX11_isInside_91 : decode cX11_isInside 91 = .ok (.iaload, 1) := by decide +kernel
theorem dX11_isInside_92 : decode cX11_isInside 92 = .ok (.i2l, 1) := by decide +kernel
theorem dX11_isInside_93 : decode cX11_isInside 93 = .ok (.aload_n 0, 1) := by decide +kernel
theorem dX11_isInside_94 : decode cX11_isInside 94 = .ok (.getfield 83, 3) := by decide +kernel
theorem dX11_isInside_97 : decode cX11_isInside 97 = .ok (.iconst 3, 1) := by decide +kernel
theorem dX11_isInside_98 : decode cX11_isInside 98 = .ok (.iaload, 1) := by decide +kernel
theorem dX11_isInside_99 : decode cX11_isInside 99 = .ok (.i2l, 1) := by decide +kernel
theorem dX11_isInside_100 : decode cX11_isInside 100 = .ok (.iload_n 2, 1) := by decide +kernel
theorem dX11_isInside_101 : decode cX11_isInside 101 = .ok (.i2l, 1) := by decide +kernel
theorem dX11_isInside_102 : decode cX11_isInside 102 = .ok (.iload_n 3, 1) := by decide +kernel
theorem dX11_isInside_103 : decode cX11_isInside 103 = .ok (.i2l, 1) := by decide +kernel
theorem dX11_isInside_104 : decode cX11_isInside 104 = .ok (.invokestatic 140, 3) := by decide +kernel
theorem dX11_isInside_107 : decode cX11_isInside 107 = .ok (.lstore 6, 2) := by decide +kernel
theorem dX11_isInside_109 : decode cX11_isInside 109 = .ok (.aload_n 0, 1) := by decide +kernel
theorem dX11_isInside_110 : decode cX11_isInside 110 = .ok (.getfield 83, 3) := by decide +kernel
theorem dX11_isInside_113 : decode cX11_isInside 113 = .ok (.iconst 3, 1) := by decide +kernel
theorem dX11_isInside_114 : decode cX11_isInside 114 = .ok (.iaload, 1) := by decide +kernel
theorem dX11_isInside_115 : decode cX11_isInside 115 = .ok (.aload_n 0, 1) := by decide +kernel
theorem dX11_isInside_116 : decode cX11_isInside 116 = .ok (.getfield 83, 3) := by decide +kernel
theorem dX11_isInside_119 : decode cX11_isInside 119 = .ok (.iconst 1, 1) := by decide +kernel
theorem dX11_isInside_120 : decode cX11_isInside 120 = .ok (.iaload, 1) := by decide +kernel
theorem dX11_isInside_121 : decode cX11_isInside 121 = .ok (.if_icmp .le 13, 3) := by decide +kernel
theorem dX11_isInside_124 : decode cX11_isInside 124 = .ok (.lload 6, 2) := by decide +kernel
theorem dX11_isInside_126 : decode cX11_isInside 126 = .ok (.lconst 0, 1) := by decide +kernel
theorem dX11_isInside_127 : decode cX11_isInside 127 = .ok (.lcmp, 1) := by decide +kernel
theorem dX11_isInside_128 : decode cX11_isInside 128 = .ok (.ifCond .le 25, 3) := by decide +kernel
theorem dX11_isInside_131 : decode cX11_isInside 131 = .ok (.goto 10, 3) := by decide +kernel
theorem dX11_isInside_134 : decode cX11_isInside 134 = .ok (.lload 6, 2) := by decide +kernel
theorem dX11_isInside_136 : decode cX11_isInside 136 = .ok (.lconst 0, 1) := by decide +kernel
theorem dX11_isInside_137 : decode cX11_isInside 137 = .ok (.lcmp, 1) := by decide +kernel
theorem dX11_isInside_138 : decode cX11_isInside 138 = .ok (.ifCond .ge 15, 3) := by decide +kernel
theorem dX11_isInside_141 : decode cX11_isInside 141 = .ok (.iload 4, 2) := by decide +kernel
theorem dX11_isInside_143 : decode cX11_isInside 143 = .ok (.ifCond .ne 7, 3) := by decide +kernel
theorem dX11_isInside_146 : decode cX11_isInside 146 = .ok (.iconst 1, 1) := by decide +kernel
theorem dX11_isInside_147 : decode cX11_isInside 147 = .ok (.goto 4, 3) := by decide +kernel
theorem dX11_isInside_150 : decode cX11_isInside 150 = .ok (.iconst 0, 1) := by decide +kernel
theorem dX11_isInside_151 : decode cX11_isInside 151 = .ok (.istore 4, 2) := by decide +kernel
theorem dX11_isInside_153 : decode cX11_isInside 153 = .ok (.iinc 5 1, 3) := by decide +kernel
theorem dX11_isInside_156 : decode cX11_isInside 156 = .ok (.goto (-138), 3) := by decide +kernel
theorem dX11_isInside_159 : decode cX11_isInside 159 = .ok (.iload 4, 2) := by decide +kernel
theorem dX11_isInside_161 : decode cX11_isInside 161 = .ok (.ireturn, 1) := by decide +kernel
theorem dX11_area_0 : decode cX11_area 0 = .ok (.lconst 0, 1) := by decide +kernel
theorem dX11_area_1 : decode cX11_area 1 = .ok (.lstore_n 2, 1) := by decide +kernel
theorem dX11_area_2 : decode cX11_area 2 = .ok (.iconst 0, 1) := by decide +kernel
theorem dX11_area_3 : decode cX11_area 3 = .ok (.istore 4, 2) := by decide +kernel
theorem dX11_area_5 : decode cX11_area 5 = .ok (.iload 4, 2) := by decide +kernel
theorem dX11_area_7 : decode cX11_area 7 = .ok (.aload_n 0, 1) := by decide +kernel
theorem dX11_area_8 : decode cX11_area 8 = .ok (.getfield 41, 3) := by decide +kernel
theorem dX11_area_11 : decode cX11_area 11 = .ok (.iload_n 1, 1) := by decide +kernel
theorem dX11_area_12 : decode cX11_area 12 = .ok (.iaload, 1) := by decide +kernel
theorem dX11_area_13 : decode cX11_area 13 = .ok (.if_icmp .ge 51, 3) := by decide +kernel
theorem dX11_area_16 : decode cX11_area 16 = .ok (.aload_n 0, 1) := by decide +kernel
theorem dX11_area_17 : decode cX11_area 17 = .ok (.iload_n 1, 1) := by decide +kernel
theorem dX11_area_18 : decode cX11_area 18 = .ok (.iload 4, 2) := by decide +kernel
theorem dX11_area_20 : decode cX11_area 20 = .ok (.iconst 0, 1) := by decide +kernel
theorem dX11_area_21 : decode cX11_area 21 = .ok (.invokevirtual 167, 3) := by decide +kernel
theorem dX11_area_24 : decode cX11_area 24 = .ok (.lload_n 2, 1) := by decide +kernel
theorem dX11_area_25 : decode cX11_area 25 = .ok (.aload_n 0, 1) := by decide +kernel
theorem dX11_area_26 : decode cX11_area 26 = .ok (.getfield 83, 3) := by decide +kernel
theorem dX11_area_29 : decode cX11_area 29 = .ok (.iconst 0, 1) := by decide +kernel
theorem dX11_area_30 : decode cX11_area 30 = .ok (.iaload, 1) := by decide +kernel
theorem dX11_area_31 : decode cX11_area 31 = .ok (.i2l, 1) := by decide +kernel
theorem dX11_area_32 : decode cX11_area 32 = .ok (.aload_n 0, 1) := by decide +kernel
theorem dX11_area_33 : decode cX11_area 33 = .ok (.getfield 83, 3) := by decide +kernel
theorem dX11_area_36 : decode cX11_area 36 = .ok (.iconst 3, 1) := by decide +kernel
theorem dX11_area_37 : decode cX11_area 37 = .ok (.iaload, 1) := by decide +kernel
theorem dX11_area_38 : decode cX11_area 38 = .ok (.i2l, 1) := by decide +kernel
theorem dX11_area_39 : decode cX11_area 39 = .ok (.lmul, 1) := by decide +kernel
theorem dX11_area_40 : decode cX11_area 40 = .ok (.aload_n 0, 1) := by decide +kernel
theorem dX11_area_41 : decode cX11_area 41 = .ok (.getfield 83, 3) := by decide +kernel
theorem dX11_area_44 : decode cX11_area 44 = .ok (.iconst 2, 1) := by decide +kernel
theorem dX11_area_45 : decode cX11_area 45 = .ok (.iaload, 1) := by decide +kernel
theorem dX11_area_46 : decode cX11_area 46 = .ok (.i2l, 1) := by decide +kernel
theorem dX11_area_47 : decode cX11_area 47 = .ok (.aload_n 0, 1) := by decide +kernel
theorem dX11_area_48 : decode cX11_area 48 = .ok (.getfield 83, 3) := by decide +kernel
theorem dX11_area_51 : decode cX11_area 51 = .ok (.iconst 1, 1) := by decide +kernel
theorem dX11_area_52 : decode cX11_area 52 = .ok (.iaload, 1) := by decide +kernel
theorem dX11_area_53 : decode cX11_area 53 = .ok (.i2l, 1) := by decide +kernel
theorem dX11_area_54 : decode cX11_area 54 = .ok (.lmul, 1) := by decide +kernel
theorem dX11_area_55 : decode cX11_area 55 = .ok (.lsub, 1) := by decide +kernel
theorem dX11_area_56 : decode cX11_area 56 = .ok (.ladd, 1) := by decide +kernel
theorem dX11_area_57 : decode cX11_area 57 = .ok (.lstore_n 2, 1) := by decide +kernel
theorem dX11_area_58 : decode cX11_area 58 = .ok (.iinc 4 1, 3) := by decide +kernel
theorem dX11_area_61 : decode cX11_area 61 = .ok (.goto (-56), 3) := by decide +kernel
theorem dX11_area_64 : decode cX11_area 64 = .ok (.lload_n 2, 1) := by decide +kernel
theorem dX11_area_65 : decode cX11_area 65 = .ok (.lconst 0, 1) := by decide +kernel
theorem dX11_area_66 : decode cX11_area 66 = .ok (.lcmp, 1) := by decide +kernel
theorem dX11_area_67 : decode cX11_area 67 = .ok (.ifCond .ge 8, 3) := by decide +kernel
theorem dX11_area_70 : decode cX11_area 70 = .ok (.lload_n 2, 1) := by decide +kernel
theorem dX11_area_71 : decode cX11_area 71 = .ok (.lneg, 1) := by decide +kernel
theorem dX11_area_72 : decode cX11_area 72 = .ok (.goto 4, 3) := by decide +kernel
theorem dX11_area_75 : decode cX11_area 75 = .ok (.lload_n 2, 1) := by decide +kernel
theorem dX11_area_76 : decode cX11_area 76 = .ok (.lreturn, 1) := by decide +kernel
theorem dX11_lengthOf_0 : decode cX11_lengthOf 0 = .ok (.lconst 0, 1) := by decide +kernel
theorem dX11_lengthOf_1 : decode cX11_lengthOf 1 = .ok (.lstore_n 2, 1) := by decide +kernel
theorem dX11_lengthOf_2 : decode cX11_lengthOf 2 = .ok (.iconst 0, 1) := by decide +kernel
theorem dX11_lengthOf_3 : decode cX11_lengthOf 3 = .ok (.istore 4, 2) := by decide +kernel
theorem dX11_lengthOf_5 : decode cX11_lengthOf 5 = .ok (.iload 4, 2) := by decide +kernel
theorem dX11_lengthOf_7 : decode cX11_lengthOf 7 = .ok (.aload_n 0, 1) := by decide +kernel
theorem dX11_lengthOf_8 : decode cX11_lengthOf 8 = .ok (.getfield 41, 3) := by decide +kernel
theorem dX11_lengthOf_11 : decode cX11_lengthOf 11 = .ok (.iload_n 1, 1) := by decide +kernel
theorem dX11_lengthOf_12 : decode cX11_lengthOf 12 = .ok (.iaload, 1) := by decide +kernel
theorem dX11_lengthOf_13 : decode cX11_lengthOf 13 = .ok (.iconst 1, 1) := by decide +kernel
theorem dX11_lengthOf_14 : decode cX11_lengthOf 14 = .ok (.isub, 1) := by decide +kernel
theorem dX11_lengthOf_15 : decode cX11_lengthOf 15 = .ok (.if_icmp .ge 54, 3) := by decide +kernel
theorem dX11_lengthOf_18 : decode cX11_lengthOf 18 = .ok (.aload_n 0, 1) := by decide +kernel
theorem dX11_lengthOf_19 : decode cX11_lengthOf 19 = .ok (.iload_n 1, 1) := by decide +kernel
theorem dX11_lengthOf_20 : decode cX11_lengthOf 20 = .ok (.iload 4, 2) := by decide +kernel
theorem dX11_lengthOf_22 : decode cX11_lengthOf 22 = .ok (.iconst 0, 1) := by decide +kernel
theorem dX11_lengthOf_23 : decode cX11_lengthOf 23 = .ok (.invokevirtual 167, 3) := by decide +kernel
theorem dX11_lengthOf_26 : decode cX11_lengthOf 26 = .ok (.lload_n 2, 1) := by decide +kernel
theorem dX11_lengthOf_27 : decode cX11_lengthOf 27 = .ok (.aload_n 0, 1) := by decide +kernel
theorem dX11_lengthOf_28 : decode cX11_lengthOf 28 = .ok (.getfield 83, 3) := by decide +kernel
theorem dX11_lengthOf_31 : decode cX11_lengthOf 31 = .ok (.iconst 2, 1) := by decide +kernel
theorem dX11_lengthOf_32 : decode cX11_lengthOf 32 = .ok (.iaload, 1) := by decide +kernel
theorem dX11_lengthOf_33 : decode cX11_lengthOf 33 = .ok (.aload_n 0, 1) := by decide +kernel
theorem dX11_lengthOf_34 : decode cX11_lengthOf 34 = .ok (.getfield 83, 3) := by decide +kernel
theorem dX11_lengthOf_37 : decode cX11_lengthOf 37 = .ok (.iconst 0, 1) := by decide +kernel
theorem dX11_lengthOf_38 : decode cX11_lengthOf 38 = .ok (.iaload, 1) := by decide +kernel
theorem dX11_lengthOf_39 : decode cX11_lengthOf 39 = .ok (.isub, 1) := by decide +kernel
theorem dX11_lengthOf_40 : decode cX11_lengthOf 40 = .ok (.invokestatic 179, 3) := by decide +kernel
theorem dX11_lengthOf_43 : decode cX11_lengthOf 43 = .ok (.aload_n 0, 1) := by decide +kernel
theorem dX11_lengthOf_44 : decode cX11_lengthOf 44 = .ok (.getfield 83, 3) := by decide +kernel
theorem dX11_lengthOf_47 : decode cX11_lengthOf 47 = .ok (.iconst 3, 1) := by decide +kernel
theorem dX11_lengthOf_48 : decode cX11_lengthOf 48 = .ok (.iaload, 1) := by decide +kernel
theorem dX11_lengthOf_49 : decode cX11_lengthOf 49 = .ok (.aload_n 0, 1) := by decide +kernel
theorem dX11_lengthOf_50 : decode cX11_lengthOf 50 = .ok (.getfield 83, 3) := by decide +kernel
theorem dX11_lengthOf_53 : decode cX11_lengthOf 53 = .ok (.iconst 1, 1) := by decide +kernel
theorem dX11_lengthOf_54 : decode cX11_lengthOf 54 = .ok (.iaload, 1) := by decide +kernel
theorem dX11_lengthOf_55 : decode cX11_lengthOf 55 = .ok (.isub, 1) := by decide +kernel
theorem dX11_lengthOf_56 : decode cX11_lengthOf 56 = .ok (.invokestatic 179, 3) := by decide +kernel
theorem dX11_lengthOf_59 : decode cX11_lengthOf 59 = .ok (.iadd, 1) := by decide +kernel
theorem dX11_lengthOf_60 : decode cX11_lengthOf 60 = .ok (.i2l, 1) := by decide +kernel
theorem dX11_lengthOf_61 : decode cX11_lengthOf 61 = .ok (.ladd, 1) := by decide +kernel
theorem dX11_lengthOf_62 : decode cX11_lengthOf 62 = .ok (.lstore_n 2, 1) := by decide +kernel
theorem dX11_lengthOf_63 : decode cX11_lengthOf 63 = .ok (.iinc 4 1, 3) := by decide +kernel
theorem dX11_lengthOf_66 : decode cX11_lengthOf 66 = .ok (.goto (-61), 3) := by decide +kernel
theorem dX11_lengthOf_69 : decode cX11_lengthOf 69 = .ok (.lload_n 2, 1) := by decide +kernel
theorem dX11_lengthOf_70 : decode cX11_lengthOf 70 = .ok (.lreturn, 1) := by decide +kernel
theorem dX11_isSimple_0 : decode cX11_isSimple 0 = .ok (.aload_n 0, 1) := by decide +kernel
theorem dX11_isSimple_1 : decode cX11_isSimple 1 = .ok (.getfield 41, 3) := by decide +kernel
theorem dX11_isSimple_4 : decode cX11_isSimple 4 = .ok (.iload_n 1, 1) := by decide +kernel
theorem dX11_isSimple_5 : decode cX11_isSimple 5 = .ok (.iaload, 1) := by decide +kernel
theorem dX11_isSimple_6 : decode cX11_isSimple 6 = .ok (.istore_n 2, 1) := by decide +kernel
theorem dX11_isSimple_7 : decode cX11_isSimple 7 = .ok (.aload_n 0, 1) := by decide +kernel
theorem dX11_isSimple_8 : decode cX11_isSimple 8 = .ok (.getfield 7, 3) := by decide +kernel
theorem dX11_isSimple_11 : decode cX11_isSimple 11 = .ok (.iload_n 1, 1) := by decide +kernel
theorem dX11_isSimple_12 : decode cX11_isSimple 12 = .ok (.iaload, 1) := by decide +kernel
theorem dX11_isSimple_13 : decode cX11_isSimple 13 = .ok (.ifCond .ne 14, 3) := by decide +kernel
theorem dX11_isSimple_16 : decode cX11_isSimple 16 = .ok (.iload_n 2, 1) := by decide +kernel
theorem dX11_isSimple_17 : decode cX11_isSimple 17 = .ok (.iconst 1, 1) := by decide +kernel
theorem dX11_isSimple_18 : decode cX11_isSimple 18 = .ok (.if_icmp .ne 7, 3) := by decide +kernel
theorem dX11_isSimple_21 : decode cX11_isSimple 21 = .ok (.iconst 1, 1) := by decide +kernel
theorem dX11_isSimple_22 : decode cX11_isSimple 22 = .ok (.goto 4, 3) := by decide +kernel
theorem dX11_isSimple_25 : decode cX11_isSimple 25 = .ok (.iconst 0, 1) := by decide +kernel
theorem dX11_isSimple_26 : decode cX11_isSimple 26 = .ok (.ireturn, 1) := by decide +kernel
theorem dX11_isSimple_27 : decode cX11_isSimple 27 = .ok (.iload_n 2, 1) := by decide +kernel
theorem dX11_isSimple_28 : decode cX11_isSimple 28 = .ok (.aload_n 0, 1) := by decide +kernel
theorem dX11_isSimple_29 : decode cX11_isSimple 29 = .ok (.iload_n 1, 1) := by decide +kernel
theorem dX11_isSimple_30 : decode cX11_isSimple 30 = .ok (.invokevirtual 161, 3) := by decide +kernel
theorem dX11_isSimple_33 : decode cX11_isSimple 33 = .ok (.ifCond .eq 7, 3) := by decide +kernel
theorem dX11_isSimple_36 : decode cX11_isSimple 36 = .ok (.iconst 3, 1) := by decide +kernel
theorem dX11_isSimple_37 : decode cX11_isSimple 37 = .ok (.goto 4, 3) := by decide +kernel
theorem dX11_isSimple_40 : decode cX11_isSimple 40 = .ok (.iconst 2, 1) := by decide +kernel
theorem dX11_isSimple_41 : decode cX11_isSimple 41 = .ok (.if_icmp .ge 5, 3) := by decide +kernel
theorem dX11_isSimple_44 : decode cX11_isSimple 44 = .ok (.iconst 0, 1) := by decide +kernel
theorem dX11_isSimple_45 : decode cX11_isSimple 45 = .ok (.ireturn, 1) := by decide +kernel
theorem dX11_isSimple_46 : decode cX11_isSimple 46 = .ok (.aload_n 0, 1) := by decide +kernel
theorem dX11_isSimple_47 : decode cX11_isSimple 47 = .ok (.iload_n 1, 1) := by decide +kernel
theorem dX11_isSimple_48 : decode cX11_isSimple 48 = .ok (.invokevirtual 164, 3) := by decide +kernel
theorem dX11_isSimple_51 : decode cX11_isSimple 51 = .ok (.istore_n 3, 1) := by decide +kernel
theorem dX11_isSimple_52 : decode cX11_isSimple 52 = .ok (.iconst 0, 1) := by decide +kernel
theorem dX11_isSimple_53 : decode cX11_isSimple 53 = .ok (.istore 4, 2) := by decide +kernel
theorem dX11_isSimple_55 : decode cX11_isSimple 55 = .ok (.iload 4, 2) := by decide +kernel
theorem dX11_isSimple_57 : decode cX11_isSimple 57 = .ok (.iload_n 3, 1) := by decide +kernel
theorem dX11_isSimple_58 : decode cX11_isSimple 58 = .ok (.if_icmp .ge 49, 3) := by decide +kernel
theorem dX11_isSimple_61 : decode cX11_isSimple 61 = .ok (.aload_n 0, 1) := by decide +kernel
theorem dX11_isSimple_62 : decode cX11_isSimple 62 = .ok (.iload_n 1, 1) := by decide +kernel
theorem dX11_isSimple_63 : decode cX11_isSimple 63 = .ok (.iload 4, 2) := by decide +kernel
theorem dX11_isSimple_65 : decode cX11_isSimple 65 = .ok (.iconst 0, 1) := by decide +kernel
theorem dX11_isSimple_66 : decode cX11_isSimple 66 = .ok (.invokevirtual 167, 3) := by decide +kernel
theorem dX11_isSimple_69 : decode cX11_isSimple 69 = .ok (.aload_n 0, 1) := by decide +kernel
theorem dX11_isSimple_70 : decode cX11_isSimple 70 = .ok (.getfield 83, 3) := by decide +kernel
theorem dX11_isSimple_73 : decode cX11_isSimple 73 = .ok (.iconst 0, 1) := by decide +kernel
theorem dX11_isSimple_74 : decode cX11_isSimple 74 = .ok (.iaload, 1) := by decide +kernel
theorem dX11_isSimple_75 : decode cX11_isSimple 75 = .ok (.aload_n 0, 1) := by decide +kernel
theorem dX11_isSimple_76 : decode cX11_isSimple 76 = .ok (.getfield 83, 3) := by decide +kernel
theorem dX11_isSimple_79 : decode cX11_isSimple 79 = .ok (.iconst 2, 1) := by decide +kernel
theorem dX11_isSimple_80 : decode cX11_isSimple 80 = .ok (.iaload, 1) := by decide +kernel
theorem dX11_isSimple_81 : decode cX11_isSimple 81 = .ok (.if_icmp .ne 20, 3) := by decide +kernel
theorem dX11_isSimple_84 : decode cX11_isSimple 84 = .ok (.aload_n 0, 1) := by decide +kernel
theorem dX11_isSimple_85 : decode cX11_isSimple 85 = .ok (.getfield 83, 3) := by decide +kernel
theorem dX11_isSimple_88 : decode cX11_isSimple 88 = .ok (.iconst 1, 1) := by decide +kernel
theorem dX11_isSimple_89 : decode cX11_isSimple 89 = .ok (.iaload, 1) := by decide +kernel
theorem dX11_isSimple_90 : decode cX11_isSimple 90 = .ok (.aload_n 0, 1) := by decide +kernel
theorem dX11_isSimple_91 : decode cX11_isSimple 91 = .ok (.getfield 83, 3) := by decide +kernel
theorem dX11_isSimple_94 : decode cX11_isSimple 94 = .ok (.iconst 3, 1) := by decide +kernel
theorem dX11_isSimple_95 : decode cX11_isSimple 95 = .ok (.iaload, 1) := by decide +kernel
theorem dX11_isSimple_96 : decode cX11_isSimple 96 = .ok (.if_icmp .ne 5, 3) := by decide +kernel
theorem dX11_isSimple_99 : decode cX11_isSimple 99 = .ok (.iconst 0, 1) := by decide +kernel
theorem dX11_isSimple_100 : decode cX11_isSimple 100 = .ok (.ireturn, 1) := by decide +kernel
theorem dX11_isSimple_101 : decode cX11_isSimple 101 = .ok (.iinc 4 1, 3) := by decide +kernel
theorem dX11_isSimple_104 : decode cX11_isSimple 104 = .ok (.goto (-49), 3) := by decide +kernel
theorem dX11_isSimple_107 : decode cX11_isSimple 107 = .ok (.iconst 0, 1) := by decide +kernel
theorem dX11_isSimple_108 : decode cX11_isSimple 108 = .ok (.istore 4, 2) := by decide +kernel
theorem dX11_isSimple_110 : decode cX11_isSimple 110 = .ok (.iload 4, 2) := by decide +kernel
theorem dX11_isSimple_112 : decode cX11_isSimple 112 = .ok (.iload_n 3, 1) := by decide +kernel
theorem dX11_isSimple_113 : decode cX11_isSimple 113 = .ok (.if_icmp .ge 125, 3) := by decide +kernel
theorem dX11_isSimple_116 : decode cX11_isSimple 116 = .ok (.iload 4, 2) := by decide +kernel
theorem dX11_isSimple_118 : decode cX11_isSimple 118 = .ok (.iconst 1, 1) := by decide +kernel
theorem dX11_isSimple_119 : decode cX11_isSimple 119 = .ok (.iadd, 1) := by decide +kernel
theorem dX11_isSimple_120 : decode cX11_isSimple 120 = .ok (.istore 5, 2) := by decide +kernel
theorem dX11_isSimple_122 : decode cX11_isSimple 122 = .ok (.iload 5, 2) := by decide +kernel
theorem dX11_isSimple_124 : decode cX11_isSimple 124 = .ok (.iload_n 3, 1) := by decide +kernel
theorem dX11_isSimple_125 : decode cX11_isSimple 125 = .ok (.if_icmp .ge 107, 3) := by decide +kernel
theorem dX11_isSimple_128 : decode cX11_isSimple 128 = .ok (.iload 5, 2) := by decide +kernel
theorem dX11_isSimple_130 : decode cX11_isSimple 130 = .ok (.iload 4, 2) := by decide +kernel
theorem dX11_isSimple_132 : decode cX11_isSimple 132 = .ok (.iconst 1, 1) := by decide +kernel
theorem dX11_isSimple_133 : decode cX11_isSimple 133 = .ok (.iadd, 1) := by decide +kernel
theorem dX11_isSimple_134 : decode cX11_isSimple 134 = .ok (.if_icmp .ne 7, 3) := by decide +kernel
theorem dX11_isSimple_137 : decode cX11_isSimple 137 = .ok (.iconst 1, 1) := by decide +kernel
theorem dX11_isSimple_138 : decode cX11_isSimple 138 = .ok (.goto 4, 3) := by decide +kernel
theorem dX11_isSimple_141 : decode cX11_isSimple 141 = .ok (.iconst 0, 1) := by decide +kernel
theorem dX11_isSimple_142 : decode cX11_isSimple 142 = .ok (.istore 6, 2) := by decide +kernel
theorem dX11_isSimple_144 : decode cX11_isSimple 144 = .ok (.aload_n 0, 1) := by decide +kernel
theorem dX11_isSimple_145 : decode cX11_isSimple 145 = .ok (.iload_n 1, 1) := by decide +kernel
theorem dX11_isSimple_146 : decode cX11_isSimple 146 = .ok (.invokevirtual 161, 3) := by decide +kernel
theorem dX11_isSimple_149 : decode cX11_isSimple 149 = .ok (.ifCond .eq 20, 3) := by decide +kernel
theorem dX11_isSimple_152 : decode cX11_isSimple 152 = .ok (.iload 4, 2) := by decide +kernel
theorem dX11_isSimple_154 : decode cX11_isSimple 154 = .ok (.ifCond .ne 15, 3) := by decide +kernel
theorem dX11_isSimple_157 : decode cX11_isSimple 157 = .ok (.iload 5, 2) := by decide +kernel
theorem dX11_isSimple_159 : decode cX11_isSimple 159 = .ok (.iload_n 3, 1) := by decide +kernel
theorem dX11_isSimple_160 : decode cX11_isSimple 160 = .ok (.iconst 1, 1) := by decide +kernel
theorem dX11_isSimple_161 : decode cX11_isSimple 161 = .ok (.isub, 1) := by decide +kernel
theorem dX11_isSimple_162 : decode cX11_isSimple 162 = .ok (.if_icmp .ne 7, 3) := by decide +kernel
theorem dX11_isSimple_165 : decode cX11_isSimple 165 = .ok (.iconst 1, 1) := by decide +kernel
theorem dX11_isSimple_166 : decode cX11_isSimple 166 = .ok (.goto 4, 3) := by decide +kernel
theorem dX11_isSimple_169 : decode cX11_isSimple 169 = .ok (.iconst 0, 1) := by decide +kernel
theorem dX11_isSimple_170 : decode cX11_isSimple 170 = .ok (.istore 7, 2) := by decide +kernel
theorem dX11_isSimple_172 : decode cX11_isSimple 172 = .ok (.iload 6, 2) := by decide +kernel
theorem dX11_isSimple_174 : decode cX11_isSimple 174 = .ok (.ifCond .eq 18, 3) := by decide +kernel
theorem dX11_isSimple_177 : decode cX11_isSimple 177 = .ok (.aload_n 0, 1) := by decide +kernel
theorem dX11_isSimple_178 : decode cX11_isSimple 178 = .ok (.iload_n 1, 1) := by decide +kernel
theorem dX11_isSimple_179 : decode cX11_isSimple 179 = .ok (.iload 4, 2) := by decide +kernel
theorem dX11_isSimple_181 : decode cX11_isSimple 181 = .ok (.iload 5, 2) := by decide +kernel
theorem dX11_isSimple_183 : decode cX11_isSimple 183 = .ok (.invokevirtual 182, 3) := by decide +kernel
theorem dX11_isSimple_186 : decode cX11_isSimple 186 = .ok (.ifCond .eq 40, 3) := by decide +kernel
theorem dX11_isSimple_189 : decode cX11_isSimple 189 = .ok (.goto 35, 3) := by decide +kernel
theorem dX11_isSimple_192 : decode cX11_isSimple 192 = .ok (.iload 7, 2) := by decide +kernel
theorem dX11_isSimple_194 : decode cX11_isSimple 194 = .ok (.ifCond .eq 18, 3) := by decide +kernel
theorem dX11_isSimple_197 : decode cX11_isSimple 197 = .ok (.aload_n 0, 1) := by decide +kernel
theorem dX11_isSimple_198 : decode cX11_isSimple 198 = .ok (.iload_n 1, 1) := by decide +kernel
theorem dX11_isSimple_199 : decode cX11_isSimple 199 = .ok (.iload 5, 2) := by decide +kernel
theorem dX11_isSimple_201 : decode cX11_isSimple 201 = .ok (.iload 4, 2) := by decide +kernel
theorem dX11_isSimple_203 : decode cX11_isSimple 203 = .ok (.invokevirtual 182, 3) := by decide +kernel
theorem dX11_isSimple_206 : decode cX11_isSimple 206 = .ok (.ifCond .eq 20, 3) := by decide +kernel
theorem dX11_isSimple_209 : decode cX11_isSimple 209 = .ok (.goto 15, 3) := by decide +kernel
theorem dX11_isSimple_212 : decode cX11_isSimple 212 = .ok (.aload_n 0, 1) := by decide +kernel
theorem dX11_isSimple_213 : decode cX11_isSimple 213 = .ok (.iload_n 1, 1) := by decide +kernel
theorem dX11_isSimple_214 : decode cX11_isSimple 214 = .ok (.iload 4, 2) := by decide +kernel
theorem dX11_isSimple_216 : decode cX11_isSimple 216 = .ok (.iload 5, 2) := by decide +kernel
theorem dX11_isSimple_218 : decode cX11_isSimple 218 = .ok (.invokevirtual 185, 3) := by decide +kernel
theorem dX11_isSimple_221 : decode cX11_isSimple 221 = .ok (.ifCond .eq 5, 3) := by decide +kernel
theorem dX11_isSimple_224 : decode cX11_isSimple 224 = .ok (.iconst 0, 1) := by decide +kernel
theorem dX11_isSimple_225 : decode cX11_isSimple 225 = .ok (.ireturn, 1) := by decide +kernel
theorem dX11_isSimple_226 : decode cX11_isSimple 226 = .ok (.iinc 5 1, 3) := by decide +kernel
theorem dX11_isSimple_229 : decode cX11_isSimple 229 = .ok (.goto (-107), 3) := by decide +kernel
theorem dX11_isSimple_232 : decode cX11_isSimple 232 = .ok (.iinc 4 1, 3) := by decide +kernel
theorem dX11_isSimple_235 : decode cX11_isSimple 235 = .ok (.goto (-125), 3) := by decide +kernel
theorem dX11_isSimple_238 : decode cX11_isSimple 238 = .ok (.aload_n 0, 1) := by decide +kernel
theorem dX11_isSimple_239 : decode cX11_isSimple 239 = .ok (.getfield 7, 3) := by decide +kernel
theorem dX11_isSimple_242 : decode cX11_isSimple 242 = .ok (.iload_n 1, 1) := by decide +kernel
theorem dX11_isSimple_243 : decode cX11_isSimple 243 = .ok (.iaload, 1) := by decide +kernel
theorem dX11_isSimple_244 : decode cX11_isSimple 244 = .ok (.bipush 6, 2) := by decide +kernel
theorem dX11_isSimple_246 : decode cX11_isSimple 246 = .ok (.if_icmp .ne 11, 3) := by decide +kernel
theorem dX11_isSimple_249 : decode cX11_isSimple 249 = .ok (.aload_n 0, 1) := by decide +kernel
theorem dX11_isSimple_250 : decode cX11_isSimple 250 = .ok (.iload_n 1, 1) := by decide +kernel
theorem dX11_isSimple_251 : decode cX11_isSimple 251 = .ok (.invokevirtual 188, 3) := by decide +kernel
theorem dX11_isSimple_254 : decode cX11_isSimple 254 = .ok (.ifCond .eq 7, 3) := by decide +kernel
theorem dX11_isSimple_257 : decode cX11_isSimple 257 = .ok (.iconst 1, 1) := by decide +kernel
theorem dX11_isSimple_258 : decode cX11_isSimple 258 = .ok (.goto 4, 3) := by decide +kernel
theorem dX11_isSimple_261 : decode cX11_isSimple 261 = .ok (.iconst 0, 1) := by decide +kernel
theorem dX11_isSimple_262 : decode cX11_isSimple 262 = .ok (.ireturn, 1) := by decide +kernel
theorem dX11_meetsEdge_0 : decode cX11_meetsEdge 0 = .ok (.aload_n 0, 1) := by decide +kernel
theorem dX11_meetsEdge_1 : decode cX11_meetsEdge 1 = .ok (.iload_n 1, 1) := by decide +kernel
theorem dX11_meetsEdge_2 : decode cX11_meetsEdge 2 = .ok (.iload_n 2, 1) := by decide +kernel
theorem dX11_meetsEdge_3 : decode cX11_meetsEdge 3 = .ok (.iconst 0, 1) := by decide +kernel
theorem dX11_meetsEdge_4 : decode cX11_meetsEdge 4 = .ok (.invokevirtual 167, 3) := by decide +kernel
theorem dX11_meetsEdge_7 : decode cX11_meetsEdge 7 = .ok (.aload_n 0, 1) := by decide +kernel
theorem dX11_meetsEdge_8 : decode cX11_meetsEdge 8 = .ok (.iload_n 1, 1) := by decide +kernel
theorem dX11_meetsEdge_9 : decode cX11_meetsEdge 9 = .ok (.iload_n 3, 1) := by decide +kernel
theorem dX11_meetsEdge_10 : decode cX11_meetsEdge 10 = .ok (.iconst 4, 1) := by decide +kernel
theorem dX11_meetsEdge_11 : decode cX11_meetsEdge 11 = .ok (.invokevirtual 167, 3) := by decide +kernel
theorem dX11_meetsEdge_14 : decode cX11_meetsEdge 14 = .ok (.aload_n 0, 1) := by decide +kernel
theorem dX11_meetsEdge_15 : decode cX11_meetsEdge 15 = .ok (.getfield 83, 3) := by decide +kernel
theorem dX11_meetsEdge_18 : decode cX11_meetsEdge 18 = .ok (.invokestatic 171, 3) := by decide +kernel
theorem dX11_meetsEdge_21 : decode cX11_meetsEdge 21 = .ok (.ireturn, 1) := by decide +kernel
theorem dX11_folds_0 : decode cX11_folds 0 = .ok (.aload_n 0, 1) := by decide +kernel
theorem dX11_folds_1 : decode cX11_folds 1 = .ok (.iload_n 1, 1) := by decide +kernel
theorem dX11_folds_2 : decode cX11_folds 2 = .ok (.iload_n 2, 1) := by decide +kernel
theorem dX11_folds_3 : decode cX11_folds 3 = .ok (.iconst 0, 1) := by decide +kernel
theorem dX11_folds_4 : decode cX11_folds 4 = .ok (.invokevirtual 167, 3) := by decide +kernel
theorem dX11_folds_7 : decode cX11_folds 7 = .ok (.aload_n 0, 1) := by decide +kernel
theorem dX11_folds_8 : decode cX11_folds 8 = .ok (.iload_n 1, 1) := by decide +kernel
theorem dX11_folds_9 : decode cX11_folds 9 = .ok (.iload_n 3, 1) := by decide +kernel
theorem dX11_folds_10 : decode cX11_folds 10 = .ok (.iconst 4, 1) := by decide +kernel
theorem dX11_folds_11 : decode cX11_folds 11 = .ok (.invokevirtual 167, 3) := by decide +kernel
theorem dX11_folds_14 : decode cX11_folds 14 = .ok (.aload_n 0, 1) := by decide +kernel
theorem dX11_folds_15 : decode cX11_folds 15 = .ok (.getfield 83, 3) := by decide +kernel
theorem dX11_folds_18 : decode cX11_folds 18 = .ok (.iconst 0, 1) := by decide +kernel
theorem dX11_folds_19 : decode cX11_folds 19 = .ok (.iaload, 1) := by decide +kernel
theorem dX11_folds_20 : decode cX11_folds 20 = .ok (.i2l, 1) := by decide +kernel
theorem dX11_folds_21 : decode cX11_folds 21 = .ok (.aload_n 0, 1) := by decide +kernel
theorem dX11_folds_22 : decode cX11_folds 22 = .ok (.getfield 83, 3) := by decide +kernel
theorem dX11_folds_25 : decode cX11_folds 25 = .ok (.iconst 1, 1) := by decide +kernel
theorem dX11_folds_26 : decode cX11_folds 26 = .ok (.iaload, 1) := by decide +kernel
theorem dX11_folds_27 : decode cX11_folds 27 = .ok (.i2l, 1) := by decide +kernel
theorem dX11_folds_28 : decode cX11_folds 28 = .ok (.aload_n 0, 1) := by decide +kernel
theorem dX11_folds_29 : decode cX11_folds 29 = .ok (.getfield 83, 3) := by decide +kernel
theorem dX11_folds_32 : decode cX11_folds 32 = .ok (.iconst 2, 1) := by decide +kernel
theorem dX11_folds_33 : decode cX11_folds 33 = .ok (.iaload, 1) := by decide +kernel
theorem dX11_folds_34 : decode cX11_folds 34 = .ok (.i2l, 1) := by decide +kernel
theorem dX11_folds_35 : decode cX11_folds 35 = .ok (.aload_n 0, 1) := by decide +kernel
theorem dX11_folds_36 : decode cX11_folds 36 = .ok (.getfield 83, 3) := by decide +kernel
theorem dX11_folds_39 : decode cX11_folds 39 = .ok (.iconst 3, 1) := by decide +kernel
theorem dX11_folds_40 : decode cX11_folds 40 = .ok (.iaload, 1) := by decide +kernel
theorem dX11_folds_41 : decode cX11_folds 41 = .ok (.i2l, 1) := by decide +kernel
theorem dX11_folds_42 : decode cX11_folds 42 = .ok (.aload_n 0, 1) := by decide +kernel
theorem dX11_folds_43 : decode cX11_folds 43 = .ok (.getfield 83, 3) := by decide +kernel
theorem dX11_folds_46 : decode cX11_folds 46 = .ok (.bipush 6, 2) := by decide +kernel
theorem dX11_folds_48 : decode cX11_folds 48 = .ok (.iaload, 1) := by decide +kernel
theorem dX11_folds_49 : decode cX11_folds 49 = .ok (.i2l, 1) := by decide +kernel
theorem dX11_folds_50 : decode cX11_folds 50 = .ok (.aload_n 0, 1) := by decide +kernel
theorem dX11_folds_51 : decode cX11_folds 51 = .ok (.getfield 83, 3) := by decide +kernel
theorem dX11_folds_54 : decode cX11_folds 54 = .ok (.bipush 7, 2) := by decide +kernel
theorem dX11_folds_56 : decode cX11_folds 56 = .ok (.iaload, 1) := by decide +kernel
theorem dX11_folds_57 : decode cX11_folds 57 = .ok (.i2l, 1) := by decide +kernel
theorem dX11_folds_58 : decode cX11_folds 58 = .ok (.invokestatic 140, 3) := by decide +kernel
theorem dX11_folds_61 : decode cX11_folds 61 = .ok (.lconst 0, 1) := by decide +kernel
theorem dX11_folds_62 : decode cX11_folds 62 = .ok (.lcmp, 1) := by decide +kernel
theorem dX11_folds_63 : decode cX11_folds 63 = .ok (.ifCond .eq 5, 3) := by decide +kernel
theorem dX11_folds_66 : decode cX11_folds 66 = .ok (.iconst 0, 1) := by decide +kernel
theorem dX11_folds_67 : decode cX11_folds 67 = .ok (.ireturn, 1) := by decide +kernel
theorem dX11_folds_68 : decode cX11_folds 68 = .ok (.aload_n 0, 1) := by decide +kernel
theorem dX11_folds_69 : decode cX11_folds 69 = .ok (.getfield 83, 3) := by decide +kernel
theorem dX11_folds_72 : decode cX11_folds 72 = .ok (.iconst 0, 1) := by decide +kernel
theorem dX11_folds_73 : decode cX11_folds 73 = .ok (.iaload, 1) := by decide +kernel
theorem dX11_folds_74 : decode cX11_folds 74 = .ok (.aload_n 0, 1) := by decide +kernel
theorem dX11_folds_75 : decode cX11_folds 75 = .ok (.getfield 83, 3) := by decide +kernel
theorem dX11_folds_78 : decode cX11_folds 78 = .ok (.iconst 2, 1) := by decide +kernel
theorem dX11_folds_79 : decode cX11_folds 79 = .ok (.iaload, 1) := by decide +kernel
theorem dX11_folds_80 : decode cX11_folds 80 = .ok (.isub, 1) := by decide +kernel
theorem dX11_folds_81 : decode cX11_folds 81 = .ok (.i2l, 1) := by decide +kernel
theorem dX11_folds_82 : decode cX11_folds 82 = .ok (.aload_n 0, 1) := by decide +kernel
theorem dX11_folds_83 : decode cX11_folds 83 = .ok (.getfield 83, 3) := by decide +kernel
theorem dX11_folds_86 : decode cX11_folds 86 = .ok (.bipush 6, 2) := by decide +kernel
theorem dX11_folds_88 : decode cX11_folds 88 = .ok (.iaload, 1) := by decide +kernel
theorem dX11_folds_89 : decode cX11_folds 89 = .ok (.aload_n 0, 1) := by decide +kernel
theorem dX11_folds_90 : decode cX11_folds 90 = .ok (.getfield 83, 3) := by decide +kernel
theorem dX11_folds_93 : decode cX11_folds 93 = .ok (.iconst 2, 1) := by decide +kernel
theorem dX11_folds_94 : decode cX11_folds 94 = .ok (.iaload, 1) := by decide +kernel
theorem dX11_folds_95 : decode cX11_folds 95 = .ok (.isub, 1) := by decide +kernel
theorem dX11_folds_96 : decode cX11_folds 96 = .ok (.i2l, 1) := by decide +kernel
theorem dX11_folds_97 : decode cX11_folds 97 = .ok (.lmul, 1) := by decide +kernel
theorem dX11_folds_98 : decode cX11_folds 98 = .ok (.aload_n 0, 1) := by decide +kernel
theorem dX11_folds_99 : decode cX11_folds 99 = .ok (.getfield 83, 3) := by decide +kernel
theorem dX11_folds_102 : decode cX11_folds 102 = .ok (.iconst 1, 1) := by decide +kernel
theorem dX11_folds_103 : decode cX11_folds 103 = .ok (.iaload, 1) := by decide +kernel
theorem dX11_folds_104 : decode cX11_folds 104 = .ok (.aload_n 0, 1) := by decide +kernel
theorem dX11_folds_105 : decode cX11_folds 105 = .ok (.getfield 83, 3) := by decide +kernel
theorem dX11_folds_108 : decode cX11_folds 108 = .ok (.iconst 3, 1) := by decide +kernel
theorem dX11_folds_109 : decode cX11_folds 109 = .ok (.iaload, 1) := by decide +kernel
theorem dX11_folds_110 : decode cX11_folds 110 = .ok (.isub, 1) := by decide +kernel
theorem dX11_folds_111 : decode cX11_folds 111 = .ok (.i2l, 1) := by decide +kernel
theorem dX11_folds_112 : decode cX11_folds 112 = .ok (.aload_n 0, 1) := by decide +kernel
theorem dX11_folds_113 : decode cX11_folds 113 = .ok (.getfield 83, 3) := by decide +kernel
theorem dX11_folds_116 : decode cX11_folds 116 = .ok (.bipush 7, 2) := by decide +kernel
theorem dX11_folds_118 : decode cX11_folds 118 = .ok (.iaload, 1) := by decide +kernel
theorem dX11_folds_119 : decode cX11_folds 119 = .ok (.aload_n 0, 1) := by decide +kernel
theorem dX11_folds_120 : decode cX11_folds 120 = .ok (.getfield 83, 3) := by decide +kernel
theorem dX11_folds_123 : decode cX11_folds 123 = .ok (.iconst 3, 1) := by decide +kernel
theorem dX11_folds_124 : decode cX11_folds 124 = .ok (.iaload, 1) := by decide +kernel
theorem dX11_folds_125 : decode cX11_folds 125 = .ok (.isub, 1) := by decide +kernel
theorem dX11_folds_126 : decode cX11_folds 126 = .ok (.i2l, 1) := by decide +kernel
theorem dX11_folds_127 : decode cX11_folds 127 = .ok (.lmul, 1) := by decide +kernel
theorem dX11_folds_128 : decode cX11_folds 128 = .ok (.ladd, 1) := by decide +kernel
theorem dX11_folds_129 : decode cX11_folds 129 = .ok (.lstore 4, 2) := by decide +kernel
theorem dX11_folds_131 : decode cX11_folds 131 = .ok (.lload 4, 2) := by decide +kernel
theorem dX11_folds_133 : decode cX11_folds 133 = .ok (.lconst 0, 1) := by decide +kernel
theorem dX11_folds_134 : decode cX11_folds 134 = .ok (.lcmp, 1) := by decide +kernel
theorem dX11_folds_135 : decode cX11_folds 135 = .ok (.ifCond .le 7, 3) := by decide +kernel
theorem dX11_folds_138 : decode cX11_folds 138 = .ok (.iconst 1, 1) := by decide +kernel
theorem dX11_folds_139 : decode cX11_folds 139 = .ok (.goto 4, 3) := by decide +kernel
theorem dX11_folds_142 : decode cX11_folds 142 = .ok (.iconst 0, 1) := by decide +kernel
theorem dX11_folds_143 : decode cX11_folds 143 = .ok (.ireturn, 1) := by decide +kernel
theorem dX11_isSquare_0 : decode cX11_isSquare 0 = .ok (.iconst 0, 1) := by decide +kernel
theorem dX11_isSquare_1 : decode cX11_isSquare 1 = .ok (.istore_n 2, 1) := by decide +kernel
theorem dX11_isSquare_2 : decode cX11_isSquare 2 = .ok (.iload_n 2, 1) := by decide +kernel
theorem dX11_isSquare_3 : decode cX11_isSquare 3 = .ok (.aload_n 0, 1) := by decide +kernel
theorem dX11_isSquare_4 : decode cX11_isSquare 4 = .ok (.getfield 41, 3) := by decide +kernel
theorem dX11_isSquare_7 : decode cX11_isSquare 7 = .ok (.iload_n 1, 1) := by decide +kernel
theorem dX11_isSquare_8 : decode cX11_isSquare 8 = .ok (.iaload, 1) := by decide +kernel
theorem dX11_isSquare_9 : decode cX11_isSquare 9 = .ok (.if_icmp .ge 109, 3) := by decide +kernel
theorem dX11_isSquare_12 : decode cX11_isSquare 12 = .ok (.aload_n 0, 1) := by decide +kernel
theorem dX11_isSquare_13 : decode cX11_isSquare 13 = .ok (.iload_n 1, 1) := by decide +kernel
theorem dX11_isSquare_14 : decode cX11_isSquare 14 = .ok (.iload_n 2, 1) := by decide +kernel
theorem dX11_isSquare_15 : decode cX11_isSquare 15 = .ok (.iconst 0, 1) := by decide +kernel
theorem dX11_isSquare_16 : decode cX11_isSquare 16 = .ok (.invokevirtual 167, 3) := by decide +kernel
theorem dX11_isSquare_19 : decode cX11_isSquare 19 = .ok (.aload_n 0, 1) := by decide +kernel
theorem dX11_isSquare_20 : decode cX11_isSquare 20 = .ok (.iload_n 1, 1) := by decide +kernel
theorem dX11_isSquare_21 : decode cX11_isSquare 21 = .ok (.iload_n 2, 1) := by decide +kernel
theorem dX11_isSquare_22 : decode cX11_isSquare 22 = .ok (.iconst 1, 1) := by decide +kernel
theorem dX11_isSquare_23 : decode cX11_isSquare 23 = .ok (.iadd, 1) := by decide +kernel
theorem dX11_isSquare_24 : decode cX11_isSquare 24 = .ok (.aload_n 0, 1) := by decide +kernel
theorem dX11_isSquare_25 : decode cX11_isSquare 25 = .ok (.getfield 41, 3) := by decide +kernel
theorem dX11_isSquare_28 : decode cX11_isSquare 28 = .ok (.iload_n 1, 1) := by decide +kernel
theorem dX11_isSquare_29 : decode cX11_isSquare 29 = .ok (.iaload, 1) := by decide +kernel
theorem dX11_isSquare_30 : decode cX11_isSquare 30 = .ok (.if_icmp .ne 7, 3) := by decide +kernel
theorem dX11_isSquare_33 : decode cX11_isSquare 33 = .ok (.iconst 0, 1) := by decide +kernel
theorem dX11_isSquare_34 : decode cX11_isSquare 34 = .ok (.goto 6, 3) := by decide +kernel
theorem dX11_isSquare_37 : decode cX11_isSquare 37 = .ok (.iload_n 2, 1) := by decide +kernel
theorem dX11_isSquare_38 : decode cX11_isSquare 38 = .ok (.iconst 1, 1) := by decide +kernel
theorem dX11_isSquare_39 : decode cX11_isSquare 39 = .ok (.iadd, 1) := by decide +kernel
theorem dX11_isSquare_40 : decode cX11_isSquare 40 = .ok (.iconst 4, 1) := by decide +kernel
theorem dX11_isSquare_41 : decode cX11_isSquare 41 = .ok (.invokevirtual 167, 3) := by decide +kernel
theorem dX11_isSquare_44 : decode cX11_isSquare 44 = .ok (.aload_n 0, 1) := by decide +kernel
theorem dX11_isSquare_45 : decode cX11_isSquare 45 = .ok (.getfield 83, 3) := by decide +kernel
theorem dX11_isSquare_48 : decode cX11_isSquare 48 = .ok (.iconst 2, 1) := by decide +kernel
theorem dX11_isSquare_49 : decode cX11_isSquare 49 = .ok (.iaload, 1) := by decide +kernel
theorem dX11_isSquare_50 : decode cX11_isSquare 50 = .ok (.aload_n 0, 1) := by decide +kernel
theorem dX11_isSquare_51 : decode cX11_isSquare 51 = .ok (.getfield 83, 3) := by decide +kernel
theorem dX11_isSquare_54 : decode cX11_isSquare 54 = .ok (.iconst 0, 1) := by decide +kernel
theorem dX11_isSquare_55 : decode cX11_isSquare 55 = .ok (.iaload, 1) := by decide +kernel
theorem dX11_isSquare_56 : decode cX11_isSquare 56 = .ok (.isub, 1) := by decide +kernel
theorem dX11_isSquare_57 : decode cX11_isSquare 57 = .ok (.i2l, 1) := by decide +kernel
theorem dX11_isSquare_58 : decode cX11_isSquare 58 = .ok (.aload_n 0, 1) := by decide +kernel
theorem dX11_isSquare_59 : decode cX11_isSquare 59 = .ok (.getfield 83, 3) := by decide +kernel
theorem dX11_isSquare_62 : decode cX11_isSquare 62 = .ok (.bipush 6, 2) := by decide +kernel
theorem dX11_isSquare_64 : decode cX11_isSquare 64 = .ok (.iaload, 1) := by decide +kernel
theorem dX11_isSquare_65 : decode cX11_isSquare 65 = .ok (.aload_n 0, 1) := by decide +kernel
theorem dX11_isSquare_66 : decode cX11_isSquare 66 = .ok (.getfield 83, 3) := by decide +kernel
theorem dX11_isSquare_69 : decode cX11_isSquare 69 = .ok (.iconst 4, 1) := by decide +kernel
theorem dX11_isSquare_70 : decode cX11_isSquare 70 = .ok (.iaload, 1) := by decide +kernel
theorem dX11_isSquare_71 : decode cX11_isSquare 71 = .ok (.isub, 1) := by decide +kernel
theorem dX11_isSquare_72 : decode cX11_isSquare 72 = .ok (.i2l, 1) := by decide +kernel
theorem dX11_isSquare_73 : decode cX11_isSquare 73 = .ok (.lmul, 1) := by decide +kernel
theorem dX11_isSquare_74 : decode cX11_isSquare 74 = .ok (.aload_n 0, 1) := by decide +kernel
theorem dX11_isSquare_75 : decode cX11_isSquare 75 = .ok (.getfield 83, 3) := by decide +kernel
theorem dX11_isSquare_78 : decode cX11_isSquare 78 = .ok (.iconst 3, 1) := by decide +kernel
theorem dX11_isSquare_79 : decode cX11_isSquare 79 = .ok (.iaload, 1) := by decide +kernel
theorem dX11_isSquare_80 : decode cX11_isSquare 80 = .ok (.aload_n 0, 1) := by decide +kernel
theorem dX11_isSquare_81 : decode cX11_isSquare 81 = .ok (.getfield 83, 3) := by decide +kernel
theorem dX11_isSquare_84 : decode cX11_isSquare 84 = .ok (.iconst 1, 1) := by decide +kernel
theorem dX11_isSquare_85 : decode cX11_isSquare 85 = .ok (.iaload, 1) := by decide +kernel
theorem dX11_isSquare_86 : decode cX11_isSquare 86 = .ok (.isub, 1) := by decide +kernel
theorem dX11_isSquare_87 : decode cX11_isSquare 87 = .ok (.i2l, 1) := by decide +kernel
theorem dX11_isSquare_88 : decode cX11_isSquare 88 = .ok (.aload_n 0, 1) := by decide +kernel
theorem dX11_isSquare_89 : decode cX11_isSquare 89 = .ok (.getfield 83, 3) := by decide +kernel
theorem dX11_isSquare_92 : decode cX11_isSquare 92 = .ok (.bipush 7, 2) := by decide +kernel
theorem dX11_isSquare_94 : decode cX11_isSquare 94 = .ok (.iaload, 1) := by decide +kernel
theorem dX11_isSquare_95 : decode cX11_isSquare 95 = .ok (.aload_n 0, 1) := by decide +kernel
theorem dX11_isSquare_96 : decode cX11_isSquare 96 = .ok (.getfield 83, 3) := by decide +kernel
theorem dX11_isSquare_99 : decode cX11_isSquare 99 = .ok (.iconst 5, 1) := by decide +kernel
theorem dX11_isSquare_100 : decode cX11_isSquare 100 = .ok (.iaload, 1) := by decide +kernel
theorem dX11_isSquare_101 : decode cX11_isSquare 101 = .ok (.isub, 1) := by decide +kernel
theorem dX11_isSquare_102 : decode cX11_isSquare 102 = .ok (.i2l, 1) := by decide +kernel
theorem dX11_isSquare_103 : decode cX11_isSquare 103 = .ok (.lmul, 1) := by decide +kernel
theorem dX11_isSquare_104 : decode cX11_isSquare 104 = .ok (.ladd, 1) := by decide +kernel
theorem dX11_isSquare_105 : decode cX11_isSquare 105 = .ok (.lconst 0, 1) := by decide +kernel
theorem dX11_isSquare_106 : decode cX11_isSquare 106 = .ok (.lcmp, 1) := by decide +kernel
theorem dX11_isSquare_107 : decode cX11_isSquare 107 = .ok (.ifCond .eq 5, 3) := by decide +kernel
theorem dX11_isSquare_110 : decode cX11_isSquare 110 = .ok (.iconst 0, 1) := by decide +kernel
theorem dX11_isSquare_111 : decode cX11_isSquare 111 = .ok (.ireturn, 1) := by decide +kernel
theorem dX11_isSquare_112 : decode cX11_isSquare 112 = .ok (.iinc 2 1, 3) := by decide +kernel
theorem dX11_isSquare_115 : decode cX11_isSquare 115 = .ok (.goto (-113), 3) := by decide +kernel
theorem dX11_isSquare_118 : decode cX11_isSquare 118 = .ok (.iconst 1, 1) := by decide +kernel
theorem dX11_isSquare_119 : decode cX11_isSquare 119 = .ok (.ireturn, 1) := by decide +kernel
theorem dX11_remember_0 : decode cX11_remember 0 = .ok (.aload_n 0, 1) := by decide +kernel
theorem dX11_remember_1 : decode cX11_remember 1 = .ok (.aload_n 0, 1) := by decide +kernel
theorem dX11_remember_2 : decode cX11_remember 2 = .ok (.getfield 41, 3) := by decide +kernel
theorem dX11_remember_5 : decode cX11_remember 5 = .ok (.iload_n 1, 1) := by decide +kernel
theorem dX11_remember_6 : decode cX11_remember 6 = .ok (.iaload, 1) := by decide +kernel
theorem dX11_remember_7 : decode cX11_remember 7 = .ok (.putfield 191, 3) := by decide +kernel
theorem dX11_remember_10 : decode cX11_remember 10 = .ok (.aload_n 0, 1) := by decide +kernel
theorem dX11_remember_11 : decode cX11_remember 11 = .ok (.aload_n 0, 1) := by decide +kernel
theorem dX11_remember_12 : decode cX11_remember 12 = .ok (.getfield 7, 3) := by decide +kernel
theorem dX11_remember_15 : decode cX11_remember 15 = .ok (.iload_n 1, 1) := by decide +kernel
theorem dX11_remember_16 : decode cX11_remember 16 = .ok (.iaload, 1) := by decide +kernel
theorem dX11_remember_17 : decode cX11_remember 17 = .ok (.putfield 194, 3) := by decide +kernel
theorem dX11_remember_20 : decode cX11_remember 20 = .ok (.iconst 0, 1) := by decide +kernel
theorem dX11_remember_21 : decode cX11_remember 21 = .ok (.istore_n 2, 1) := by decide +kernel
theorem dX11_remember_22 : decode cX11_remember 22 = .ok (.iload_n 2, 1) := by decide +kernel
theorem dX11_remember_23 : decode cX11_remember 23 = .ok (.aload_n 0, 1) := by decide +kernel
theorem dX11_remember_24 : decode cX11_remember 24 = .ok (.getfield 191, 3) := by decide +kernel
theorem dX11_remember_27 : decode cX11_remember 27 = .ok (.if_icmp .ge 43, 3) := by decide +kernel
theorem dX11_remember_30 : decode cX11_remember 30 = .ok (.aload_n 0, 1) := by decide +kernel
theorem dX11_remember_31 : decode cX11_remember 31 = .ok (.getfield 86, 3) := by decide +kernel
theorem dX11_remember_34 : decode cX11_remember 34 = .ok (.iload_n 2, 1) := by decide +kernel
theorem dX11_remember_35 : decode cX11_remember 35 = .ok (.aload_n 0, 1) := by decide +kernel
theorem dX11_remember_36 : decode cX11_remember 36 = .ok (.getfield 44, 3) := by decide +kernel
theorem dX11_remember_39 : decode cX11_remember 39 = .ok (.bipush 40, 2) := by decide +kernel
theorem dX11_remember_41 : decode cX11_remember 41 = .ok (.iload_n 1, 1) := by decide +kernel
theorem dX11_remember_42 : decode cX11_remember 42 = .ok (.imul, 1) := by decide +kernel
theorem dX11_remember_43 : decode cX11_remember 43 = .ok (.iload_n 2, 1) := by decide +kernel
theorem dX11_remember_44 : decode cX11_remember 44 = .ok (.iadd, 1) := by decide +kernel
theorem dX11_remember_45 : decode cX11_remember 45 = .ok (.iaload, 1) := by decide +kernel
theorem dX11_remember_46 : decode cX11_remember 46 = .ok (.iastore, 1) := by decide +kernel
theorem dX11_remember_47 : decode cX11_remember 47 = .ok (.aload_n 0, 1) := by decide +kernel
theorem dX11_remember_48 : decode cX11_remember 48 = .ok (.getfield 89, 3) := by decide +kernel
theorem dX11_remember_51 : decode cX11_remember 51 = .ok (.iload_n 2, 1) := by decide +kernel
theorem dX11_remember_52 : decode cX11_remember 52 = .ok (.aload_n 0, 1) := by decide +kernel
theorem dX11_remember_53 : decode cX11_remember 53 = .ok (.getfield 47, 3) := by decide +kernel
theorem dX11_remember_56 : decode cX11_remember 56 = .ok (.bipush 40, 2) := by decide +kernel
theorem dX11_remember_58 : decode cX11_remember 58 = .ok (.iload_n 1, 1) := by decide +kernel
theorem dX11_remember_59 : decode cX11_remember 59 = .ok (.imul, 1) := by decide +kernel
theorem dX11_remember_60 : decode cX11_remember 60 = .ok (.iload_n 2, 1) := by decide +kernel
theorem dX11_remember_61 : decode cX11_remember 61 = .ok (.iadd, 1) := by decide +kernel
theorem dX11_remember_62 : decode cX11_remember 62 = .ok (.iaload, 1) := by decide +kernel
theorem dX11_remember_63 : decode cX11_remember 63 = .ok (.iastore, 1) := by decide +kernel
theorem dX11_remember_64 : decode cX11_remember 64 = .ok (.iinc 2 1, 3) := by decide +kernel
theorem dX11_remember_67 : decode cX11_remember 67 = .ok (.goto (-45), 3) := by decide +kernel
theorem dX11_remember_70 : decode cX11_remember 70 = .ok (.iconst 0, 1) := by decide +kernel
theorem dX11_remember_71 : decode cX11_remember 71 = .ok (.istore_n 2, 1) := by decide +kernel
theorem dX11_remember_72 : decode cX11_remember 72 = .ok (.iload_n 2, 1) := by decide +kernel
theorem dX11_remember_73 : decode cX11_remember 73 = .ok (.aload_n 0, 1) := by decide +kernel
theorem dX11_remember_74 : decode cX11_remember 74 = .ok (.getfield 130, 3) := by decide +kernel
theorem dX11_remember_77 : decode cX11_remember 77 = .ok (.if_icmp .ge 140, 3) := by decide +kernel
theorem dX11_remember_80 : decode cX11_remember 80 = .ok (.iload_n 2, 1) := by decide +kernel
theorem dX11_remember_81 : decode cX11_remember 81 = .ok (.iload_n 1, 1) := by decide +kernel
theorem dX11_remember_82 : decode cX11_remember 82 = .ok (.if_icmp .eq 129, 3) := by decide +kernel
theorem dX11_remember_85 : decode cX11_remember 85 = .ok (.aload_n 0, 1) := by decide +kernel
theorem dX11_remember_86 : decode cX11_remember 86 = .ok (.iload_n 2, 1) := by decide +kernel
theorem dX11_remember_87 : decode cX11_remember 87 = .ok (.invokevirtual 197, 3) := by decide +kernel
theorem dX11_remember_90 : decode cX11_remember 90 = .ok (.ifCond .ne 6, 3) := by decide +kernel
theorem dX11_remember_93 : decode cX11_remember 93 = .ok (.goto 118, 3) := by decide +kernel
theorem dX11_remember_96 : decode cX11_remember 96 = .ok (.aload_n 0, 1) := by decide +kernel
theorem dX11_remember_97 : decode cX11_remember 97 = .ok (.getfield 92, 3) := by decide +kernel
theorem dX11_remember_100 : decode cX11_remember 100 = .ok (.iload_n 2, 1) := by decide +kernel
theorem dX11_remember_101 : decode cX11_remember 101 = .ok (.aload_n 0, 1) := by decide +kernel
theorem dX11_remember_102 : decode cX11_remember 102 = .ok (.iload_n 1, 1) := by decide +kernel
theorem dX11_remember_103 : decode cX11_remember 103 = .ok (.iload_n 2, 1) := by decide +kernel
theorem dX11_remember_104 : decode cX11_remember 104 = .ok (.invokevirtual 200, 3) := by decide +kernel
theorem dX11_remember_107 : decode cX11_remember 107 = .ok (.bastore, 1) := by decide +kernel
theorem dX11_remember_108 : decode cX11_remember 108 = .ok (.aload_n 0, 1) := by decide +kernel
theorem dX11_remember_109 : decode cX11_remember 109 = .ok (.getfield 95, 3) := by decide +kernel
theorem dX11_remember_112 : decode cX11_remember 112 = .ok (.iload_n 2, 1) := by decide +kernel
theorem dX11_remember_113 : decode cX11_remember 113 = .ok (.aload_n 0, 1) := by decide +kernel
theorem dX11_remember_114 : decode cX11_remember 114 = .ok (.iload_n 2, 1) := by decide +kernel
theorem dX11_remember_115 : decode cX11_remember 115 = .ok (.invokevirtual 161, 3) := by decide +kernel
theorem dX11_remember_118 : decode cX11_remember 118 = .ok (.ifCond .eq 27, 3) := by decide +kernel
theorem dX11_remember_121 : decode cX11_remember 121 = .ok (.aload_n 0, 1) := by decide +kernel
theorem dX11_remember_122 : decode cX11_remember 122 = .ok (.iload_n 2, 1) := by decide +kernel
theorem dX11_remember_123 : decode cX11_remember 123 = .ok (.aload_n 0, 1) := by decide +kernel
theorem dX11_remember_124 : decode cX11_remember 124 = .ok (.getfield 86, 3) := by decide +kernel
theorem dX11_remember_127 : decode cX11_remember 127 = .ok (.iconst 0, 1) := by decide +kernel
theorem dX11_remember_128 : decode cX11_remember 128 = .ok (.iaload, 1) := by decide +kernel
theorem dX11_remember_129 : decode cX11_remember 129 = .ok (.aload_n 0, 1) := by decide +kernel
theorem dX11_remember_130 : decode cX11_remember 130 = .ok (.getfield 89, 3) := by decide +kernel
theorem dX11_remember_133 : decode cX11_remember 133 = .ok (.iconst 0, 1) := by decide +kernel
theorem dX11_remember_134 : decode cX11_remember 134 = .ok (.iaload, 1) := by decide +kernel
theorem dX11_remember_135 : decode cX11_remember 135 = .ok (.invokevirtual 204, 3) := by decide +kernel
theorem dX11_remember_138 : decode cX11_remember 138 = .ok (.ifCond .eq 7, 3) := by decide +kernel
theorem dX11_remember_141 : decode cX11_remember 141 = .ok (.iconst 1, 1) := by decide +kernel
theorem dX11_remember_142 : decode cX11_remember 142 = .ok (.goto 4, 3) := by decide +kernel
theorem dX11_remember_145 : decode cX11_remember 145 = .ok (.iconst 0, 1) := by decide +kernel
theorem dX11_remember_146 : decode cX11_remember 146 = .ok (.bastore, 1) := by decide +kernel
theorem dX11_remember_147 : decode cX11_remember 147 = .ok (.iconst 0, 1) := by decide +kernel
theorem dX11_remember_148 : decode cX11_remember 148 = .ok (.istore_n 3, 1) := by decide +kernel
theorem dX11_remember_149 : decode cX11_remember 149 = .ok (.iload_n 3, 1) := by decide +kernel
theorem dX11_remember_150 : decode cX11_remember 150 = .ok (.aload_n 0, 1) := by decide +kernel
theorem dX11_remember_151 : decode cX11_remember 151 = .ok (.getfield 41, 3) := by decide +kernel
theorem dX11_remember_154 : decode cX11_remember 154 = .ok (.iload_n 2, 1) := by decide +kernel
theorem dX11_remember_155 : decode cX11_remember 155 = .ok (.iaload, 1) := by decide +kernel
theorem dX11_remember_156 : decode cX11_remember 156 = .ok (.if_icmp .ge 55, 3) := by decide +kernel
theorem dX11_remember_159 : decode cX11_remember 159 = .ok (.aload_n 0, 1) := by decide +kernel
theorem dX11_remember_160 : decode cX11_remember 160 = .ok (.iload_n 1, 1) := by decide +kernel
theorem dX11_remember_161 : decode cX11_remember 161 = .ok (.invokevirtual 161, 3) := by decide +kernel
theorem dX11_remember_164 : decode cX11_remember 164 = .ok (.ifCond .eq 47, 3) := by decide +kernel
theorem dX11_remember_167 : decode cX11_remember 167 = .ok (.aload_n 0, 1) := by decide +kernel
theorem dX11_remember_168 : decode cX11_remember 168 = .ok (.getfield 98, 3) := by decide +kernel
theorem dX11_remember_171 : decode cX11_remember 171 = .ok (.bipush 40, 2) := by decide +kernel
theorem dX11_remember_173 : decode cX11_remember 173 = .ok (.iload_n 2, 1) := by decide +kernel
theorem dX11_remember_174 : decode cX11_remember 174 = .ok (.imul, 1) := by decide +kernel
theorem dX11_remember_175 : decode cX11_remember 175 = .ok (.iload_n 3, 1) := by decide +kernel
theorem dX11_remember_176 : decode cX11_remember 176 = .ok (.iadd, 1) := by decide +kernel
theorem dX11_remember_177 : decode cX11_remember 177 = .ok (.aload_n 0, 1) := by decide +kernel
theorem dX11_remember_178 : decode cX11_remember 178 = .ok (.iload_n 1, 1) := by decide +kernel
theorem dX11_remember_179 : decode cX11_remember 179 = .ok (.aload_n 0, 1) := by decide +kernel
theorem dX11_remember_180 : decode cX11_remember 180 = .ok (.getfield 44, 3) := by decide +kernel
theorem dX11_remember_183 : decode cX11_remember 183 = .ok (.bipush 40, 2) := by decide +kernel
theorem dX11_remember_185 : decode cX11_remember 185 = .ok (.iload_n 2, 1) := by decide +kernel
theorem dX11_remember_186 : decode cX11_remember 186 = .ok (.imul, 1) := by decide +kernel
theorem dX11_remember_187 : decode cX11_remember 187 = .ok (.iload_n 3, 1) := by decide +kernel
theorem dX11_remember_188 : decode cX11_remember 188 = .ok (.iadd, 1) := by decide +kernel
theorem dX11_remember_189 : decode cX11_remember 189 = .ok (.iaload, 1) := by decide +kernel
theorem dX11_remember_190 : decode cX11_remember 190 = .ok (.aload_n 0, 1) := by decide +kernel
theorem dX11_remember_191 : decode cX11_remember 191 = .ok (.getfield 47, 3) := by decide +kernel
theorem dX11_remember_194 : decode cX11_remember 194 = .ok (.bipush 40, 2) := by decide +kernel
theorem dX11_remember_196 : decode cX11_remember 196 = .ok (.iload_n 2, 1) := by decide +kernel
theorem dX11_remember_197 : decode cX11_remember 197 = .ok (.imul, 1) := by decide +kernel
theorem dX11_remember_198 : decode cX11_remember 198 = .ok (.iload_n 3, 1) := by decide +kernel
theorem dX11_remember_199 : decode cX11_remember 199 = .ok (.iadd, 1) := by decide +kernel
theorem dX11_remember_200 : decode cX11_remember 200 = .ok (.iaload, 1) := by decide +kernel
theorem dX11_remember_201 : decode cX11_remember 201 = .ok (.invokevirtual 204, 3) := by decide +kernel
theorem dX11_remember_204 : decode cX11_remember 204 = .ok (.bastore, 1) := by decide +kernel
theorem dX11_remember_205 : decode cX11_remember 205 = .ok (.iinc 3 1, 3) := by decide +kernel
theorem dX11_remember_208 : decode cX11_remember 208 = .ok (.goto (-59), 3) := by decide +kernel
theorem dX11_remember_211 : decode cX11_remember 211 = .ok (.iinc 2 1, 3) := by decide +kernel
theorem dX11_remember_214 : decode cX11_remember 214 = .ok (.goto (-142), 3) := by decide +kernel
theorem dX11_remember_217 : decode cX11_remember 217 = .ok (.return_, 1) := by decide +kernel
theorem dX11_forgetNew_0 : decode cX11_forgetNew 0 = .ok (.aload_n 0, 1) := by decide +kernel
theorem dX11_forgetNew_1 : decode cX11_forgetNew 1 = .ok (.getfield 41, 3) := by decide +kernel
theorem dX11_forgetNew_4 : decode cX11_forgetNew 4 = .ok (.iload_n 1, 1) := by decide +kernel
theorem dX11_forgetNew_5 : decode cX11_forgetNew 5 = .ok (.aload_n 0, 1) := by decide +kernel
theorem dX11_forgetNew_6 : decode cX11_forgetNew 6 = .ok (.getfield 191, 3) := by decide +kernel
theorem dX11_forgetNew_9 : decode cX11_forgetNew 9 = .ok (.iastore, 1) := by decide +kernel
theorem dX11_forgetNew_10 : decode cX11_forgetNew 10 = .ok (.aload_n 0, 1) := by decide +kernel
theorem dX11_forgetNew_11 : decode cX11_forgetNew 11 = .ok (.getfield 7, 3) := by decide +kernel
theorem dX11_forgetNew_14 : decode cX11_forgetNew 14 = .ok (.iload_n 1, 1) := by decide +kernel
theorem dX11_forgetNew_15 : decode cX11_forgetNew 15 = .ok (.aload_n 0, 1) := by decide +kernel
theorem dX11_forgetNew_16 : decode cX11_forgetNew 16 = .ok (.getfield 194, 3) := by decide +kernel
theorem dX11_forgetNew_19 : decode cX11_forgetNew 19 = .ok (.iastore, 1) := by decide +kernel
theorem dX11_forgetNew_20 : decode cX11_forgetNew 20 = .ok (.iconst 0, 1) := by decide +kernel
theorem dX11_forgetNew_21 : decode cX11_forgetNew 21 = .ok (.istore_n 2, 1) := by decide +kernel
theorem dX11_forgetNew_22 : decode cX11_forgetNew 22 = .ok (.iload_n 2, 1) := by decide +kernel
theorem dX11_forgetNew_23 : decode cX11_forgetNew 23 = .ok (.aload_n 0, 1) := by decide +kernel
theorem dX11_forgetNew_24 : decode cX11_forgetNew 24 = .ok (.getfield 191, 3) := by decide +kernel
theorem dX11_forgetNew_27 : decode cX11_forgetNew 27 = .ok (.if_icmp .ge 43, 3) := by decide +kernel
theorem dX11_forgetNew_30 : decode cX11_forgetNew 30 = .ok (.aload_n 0, 1) := by decide +kernel
theorem dX11_forgetNew_31 : decode cX11_forgetNew 31 = .ok (.getfield 44, 3) := by decide +kernel
theorem dX11_forgetNew_34 : decode cX11_forgetNew 34 = .ok (.bipush 40, 2) := by decide +kernel
theorem dX11_forgetNew_36 : decode cX11_forgetNew 36 = .ok (.iload_n 1, 1) := by decide +kernel
theorem dX11_forgetNew_37 : decode cX11_forgetNew 37 = .ok (.imul, 1) := by decide +kernel
theorem dX11_forgetNew_38 : decode cX11_forgetNew 38 = .ok (.iload_n 2, 1) := by decide +kernel
theorem dX11_forgetNew_39 : decode cX11_forgetNew 39 = .ok (.iadd, 1) := by decide +kernel
theorem dX11_forgetNew_40 : decode cX11_forgetNew 40 = .ok (.aload_n 0, 1) := by decide +kernel
theorem dX11_forgetNew_41 : decode cX11_forgetNew 41 = .ok (.getfield 86, 3) := by decide +kernel
theorem dX11_forgetNew_44 : decode cX11_forgetNew 44 = .ok (.iload_n 2, 1) := by decide +kernel
theorem dX11_forgetNew_45 : decode cX11_forgetNew 45 = .ok (.iaload, 1) := by decide +kernel
theorem dX11_forgetNew_46 : decode cX11_forgetNew 46 = .ok (.iastore, 1) := by decide +kernel
theorem dX11_forgetNew_47 : decode cX11_forgetNew 47 = .ok (.aload_n 0, 1) := by decide +kernel
theorem dX11_forgetNew_48 : decode cX11_forgetNew 48 = .ok (.getfield 47, 3) := by decide +kernel
theorem dX11_forgetNew_51 : decode cX11_forgetNew 51 = .ok (.bipush 40, 2) := by decide +kernel
theorem dX11_forgetNew_53 : decode cX11_forgetNew 53 = .ok (.iload_n 1, 1) := by decide +kernel
theorem dX11_forgetNew_54 : decode cX11_forgetNew 54 = .ok (.imul, 1) := by decide +kernel
theorem dX11_forgetNew_55 : decode cX11_forgetNew 55 = .ok (.iload_n 2, 1) := by decide +kernel
theorem dX11_forgetNew_56 : decode cX11_forgetNew 56 = .ok (.iadd, 1) := by decide +kernel
theorem dX11_forgetNew_57 : decode cX11_forgetNew 57 = .ok (.aload_n 0, 1) := by decide +kernel
theorem dX11_forgetNew_58 : decode cX11_forgetNew 58 = .ok (.getfield 89, 3) := by decide +kernel
theorem dX11_forgetNew_61 : decode cX11_forgetNew 61 = .ok (.iload_n 2, 1) := by decide +kernel
theorem dX11_forgetNew_62 : decode cX11_forgetNew 62 = .ok (.iaload, 1) := by decide +kernel
theorem dX11_forgetNew_63 : decode cX11_forgetNew 63 = .ok (.iastore, 1) := by decide +kernel
theorem dX11_forgetNew_64 : decode cX11_forgetNew 64 = .ok (.iinc 2 1, 3) := by decide +kernel
theorem dX11_forgetNew_67 : decode cX11_forgetNew 67 = .ok (.goto (-45), 3) := by decide +kernel
theorem dX11_forgetNew_70 : decode cX11_forgetNew 70 = .ok (.return_, 1) := by decide +kernel
theorem dX11_arePlaces_0 : decode cX11_arePlaces 0 = .ok (.iconst 0, 1) := by decide +kernel
theorem dX11_arePlaces_1 : decode cX11_arePlaces 1 = .ok (.istore_n 2, 1) := by decide +kernel
theorem dX11_arePlaces_2 : decode cX11_arePlaces 2 = .ok (.iload_n 2, 1) := by decide +kernel
theorem dX11_arePlaces_3 : decode cX11_arePlaces 3 = .ok (.aload_n 0, 1) := by decide +kernel
theorem dX11_arePlaces_4 : decode cX11_arePlaces 4 = .ok (.getfield 41, 3) := by decide +kernel
theorem dX11_arePlaces_7 : decode cX11_arePlaces 7 = .ok (.iload_n 1, 1) := by decide +kernel
theorem dX11_arePlaces_8 : decode cX11_arePlaces 8 = .ok (.iaload, 1) := by decide +kernel
theorem dX11_arePlaces_9 : decode cX11_arePlaces 9 = .ok (.if_icmp .ge 60, 3) := by decide +kernel
theorem dX11_arePlaces_12 : decode cX11_arePlaces 12 = .ok (.aload_n 0, 1) := by decide +kernel
theorem dX11_arePlaces_13 : decode cX11_arePlaces 13 = .ok (.getfield 44, 3) := by decide +kernel
theorem dX11_arePlaces_16 : decode cX11_arePlaces 16 = .ok (.bipush 40, 2) := by decide +kernel
theorem dX11_arePlaces_18 : decode cX11_arePlaces 18 = .ok (.iload_n 1, 1) := by decide +kernel
theorem dX11_arePlaces_19 : decode cX11_arePlaces 19 = .ok (.imul, 1) := by decide +kernel
theorem dX11_arePlaces_20 : decode cX11_arePlaces 20 = .ok (.iload_n 2, 1) := by decide +kernel
theorem dX11_arePlaces_21 : decode cX11_arePlaces 21 = .ok (.iadd, 1) := by decide +kernel
theorem dX11_arePlaces_22 : decode cX11_arePlaces 22 = .ok (.iaload, 1) := by decide +kernel
theorem dX11_arePlaces_23 : decode cX11_arePlaces 23 = .ok (.istore_n 3, 1) := by decide +kernel
theorem dX11_arePlaces_24 : decode cX11_arePlaces 24 = .ok (.aload_n 0, 1) := by decide +kernel
theorem dX11_arePlaces_25 : decode cX11_arePlaces 25 = .ok (.getfield 47, 3) := by decide +kernel
theorem dX11_arePlaces_28 : decode cX11_arePlaces 28 = .ok (.bipush 40, 2) := by decide +kernel
theorem dX11_arePlaces_30 : decode cX11_arePlaces 30 = .ok (.iload_n 1, 1) := by decide +kernel
theorem dX11_arePlaces_31 : decode cX11_arePlaces 31 = .ok (.imul, 1) := by decide +kernel
theorem dX11_arePlaces_32 : decode cX11_arePlaces 32 = .ok (.iload_n 2, 1) := by decide +kernel
theorem dX11_arePlaces_33 : decode cX11_arePlaces 33 = .ok (.iadd, 1) := by decide +kernel
theorem dX11_arePlaces_34 : decode cX11_arePlaces 34 = .ok (.iaload, 1) := by decide +kernel
theorem dX11_arePlaces_35 : decode cX11_arePlaces 35 = .ok (.istore 4, 2) := by decide +kernel
theorem dX11_arePlaces_37 : decode cX11_arePlaces 37 = .ok (.iload_n 3, 1) := by decide +kernel
theorem dX11_arePlaces_38 : decode cX11_arePlaces 38 = .ok (.ifCond .lt 23, 3) := by decide +kernel
theorem dX11_arePlaces_41 : decode cX11_arePlaces 41 = .ok (.iload_n 3, 1) := by decide +kernel
theorem dX11_arePlaces_42 : decode cX11_arePlaces 42 = .ok (.sipush 1000, 3) := by decide +kernel
theorem dX11_arePlaces_45 : decode cX11_arePlaces 45 = .ok (.if_icmp .gt 16, 3) := by decide +kernel
theorem dX11_arePlaces_48 : decode cX11_arePlaces 48 = .ok (.iload 4, 2) := by decide +kernel
theorem dX11_arePlaces_50 : decode cX11_arePlaces 50 = .ok (.ifCond .lt 11, 3) := by decide +kernel
theorem dX11_arePlaces_53 : decode cX11_arePlaces 53 = .ok (.iload 4, 2) := by decide +kernel
theorem dX11_arePlaces_55 : decode cX11_arePlaces 55 = .ok (.sipush 1000, 3) := by decide +kernel
theorem dX11_arePlaces_58 : decode cX11_arePlaces 58 = .ok (.if_icmp .le 5, 3) := by decide +kernel
theorem dX11_arePlaces_61 : decode cX11_arePlaces 61 = .ok (.iconst 0, 1) := by decide +kernel
theorem dX11_arePlaces_62 : decode cX11_arePlaces 62 = .ok (.ireturn, 1) := by decide +kernel
theorem dX11_arePlaces_63 : decode cX11_arePlaces 63 = .ok (.iinc 2 1, 3) := by decide +kernel
theorem dX11_arePlaces_66 : decode cX11_arePlaces 66 = .ok (.goto (-64), 3) := by decide +kernel
theorem dX11_arePlaces_69 : decode cX11_arePlaces 69 = .ok (.iconst 1, 1) := by decide +kernel
theorem dX11_arePlaces_70 : decode cX11_arePlaces 70 = .ok (.ireturn, 1) := by decide +kernel
theorem dX11_isLawful_0 : decode cX11_isLawful 0 = .ok (.aload_n 0, 1) := by decide +kernel
theorem dX11_isLawful_1 : decode cX11_isLawful 1 = .ok (.iload_n 1, 1) := by decide +kernel
theorem dX11_isLawful_2 : decode cX11_isLawful 2 = .ok (.invokevirtual 207, 3) := by decide +kernel
theorem dX11_isLawful_5 : decode cX11_isLawful 5 = .ok (.ifCond .eq 11, 3) := by decide +kernel
theorem dX11_isLawful_8 : decode cX11_isLawful 8 = .ok (.aload_n 0, 1) := by decide +kernel
theorem dX11_isLawful_9 : decode cX11_isLawful 9 = .ok (.iload_n 1, 1) := by decide +kernel
theorem dX11_isLawful_10 : decode cX11_isLawful 10 = .ok (.invokevirtual 210, 3) := by decide +kernel
theorem dX11_isLawful_13 : decode cX11_isLawful 13 = .ok (.ifCond .ne 5, 3) := by decide +kernel
theorem dX11_isLawful_16 : decode cX11_isLawful 16 = .ok (.iconst 0, 1) := by decide +kernel
theorem dX11_isLawful_17 : decode cX11_isLawful 17 = .ok (.ireturn, 1) := by decide +kernel
theorem dX11_isLawful_18 : decode cX11_isLawful 18 = .ok (.iconst 0, 1) := by decide +kernel
theorem dX11_isLawful_19 : decode cX11_isLawful 19 = .ok (.istore 4, 2) := by decide +kernel
theorem dX11_isLawful_21 : decode cX11_isLawful 21 = .ok (.iload 4, 2) := by decide +kernel
theorem dX11_isLawful_23 : decode cX11_isLawful 23 = .ok (.aload_n 0, 1) := by decide +kernel
theorem dX11_isLawful_24 : decode cX11_isLawful 24 = .ok (.getfield 130, 3) := by decide +kernel
theorem dX11_isLawful_27 : decode cX11_isLawful 27 = .ok (.if_icmp .ge 38, 3) := by decide +kernel
theorem dX11_isLawful_30 : decode cX11_isLawful 30 = .ok (.iload 4, 2) := by decide +kernel
theorem dX11_isLawful_32 : decode cX11_isLawful 32 = .ok (.iload_n 1, 1) := by decide +kernel
theorem dX11_isLawful_33 : decode cX11_isLawful 33 = .ok (.if_icmp .eq 26, 3) := by decide +kernel
theorem dX11_isLawful_36 : decode cX11_isLawful 36 = .ok (.aload_n 0, 1) := by decide +kernel
theorem dX11_isLawful_37 : decode cX11_isLawful 37 = .ok (.iload 4, 2) := by decide +kernel
theorem dX11_isLawful_39 : decode cX11_isLawful 39 = .ok (.invokevirtual 197, 3) := by decide +kernel
theorem dX11_isLawful_42 : decode cX11_isLawful 42 = .ok (.ifCond .eq 17, 3) := by decide +kernel
theorem dX11_isLawful_45 : decode cX11_isLawful 45 = .ok (.aload_n 0, 1) := by decide +kernel
theorem dX11_isLawful_46 : decode cX11_isLawful 46 = .ok (.iload_n 1, 1) := by decide +kernel
theorem dX11_isLawful_47 : decode cX11_isLawful 47 = .ok (.iload 4, 2) := by decide +kernel
theorem dX11_isLawful_49 : decode cX11_isLawful 49 = .ok (.iload_n 2, 1) := by decide +kernel
theorem dX11_isLawful_50 : decode cX11_isLawful 50 = .ok (.iload_n 3, 1) := by decide +kernel
theorem dX11_isLawful_51 : decode cX11_isLawful 51 = .ok (.invokevirtual 213, 3) := by decide +kernel
theorem dX11_isLawful_54 : decode cX11_isLawful 54 = .ok (.ifCond .ne 5, 3) := by decide +kernel
theorem dX11_isLawful_57 : decode cX11_isLawful 57 = .ok (.iconst 0, 1) := by decide +kernel
theorem dX11_isLawful_58 : decode cX11_isLawful 58 = .ok (.ireturn, 1) := by decide +kernel
theorem dX11_isLawful_59 : decode cX11_isLawful 59 = .ok (.iinc 4 1, 3) := by decide +kernel
theorem dX11_isLawful_62 : decode cX11_isLawful 62 = .ok (.goto (-41), 3) := by decide +kernel
theorem dX11_isLawful_65 : decode cX11_isLawful 65 = .ok (.iconst 1, 1) := by decide +kernel
theorem dX11_isLawful_66 : decode cX11_isLawful 66 = .ok (.ireturn, 1) := by decide +kernel
theorem dX11_isLawfulTo_0 : decode cX11_isLawfulTo 0 = .ok (.aload_n 0, 1) := by decide +kernel
theorem dX11_isLawfulTo_1 : decode cX11_isLawfulTo 1 = .ok (.iload_n 1, 1) := by decide +kernel
theorem dX11_isLawfulTo_2 : decode cX11_isLawfulTo 2 = .ok (.iload_n 2, 1) := by decide +kernel
theorem dX11_isLawfulTo_3 : decode cX11_isLawfulTo 3 = .ok (.invokevirtual 200, 3) := by decide +kernel
theorem dX11_isLawfulTo_6 : decode cX11_isLawfulTo 6 = .ok (.aload_n 0, 1) := by decide +kernel
theorem dX11_isLawfulTo_7 : decode cX11_isLawfulTo 7 = .ok (.getfield 92, 3) := by decide +kernel
theorem dX11_isLawfulTo_10 : decode cX11_isLawfulTo 10 = .ok (.iload_n 2, 1) := by decide +kernel
theorem dX11_isLawfulTo_11 : decode cX11_isLawfulTo 11 = .ok (.baload, 1) := by decide +kernel
theorem dX11_isLawfulTo_12 : decode cX11_isLawfulTo 12 = .ok (.if_icmp .eq 5, 3) := by decide +kernel
theorem dX11_isLawfulTo_15 : decode cX11_isLawfulTo 15 = .ok (.iconst 0, 1) := by decide +kernel
theorem dX11_isLawfulTo_16 : decode cX11_isLawfulTo 16 = .ok (.ireturn, 1) := by decide +kernel
theorem dX11_isLawfulTo_17 : decode cX11_isLawfulTo 17 = .ok (.aload_n 0, 1) := by decide +kernel
theorem dX11_isLawfulTo_18 : decode cX11_isLawfulTo 18 = .ok (.iload_n 2, 1) := by decide +kernel
theorem dX11_isLawfulTo_19 : decode cX11_isLawfulTo 19 = .ok (.invokevirtual 161, 3) := by decide +kernel
theorem dX11_isLawfulTo_22 : decode cX11_isLawfulTo 22 = .ok (.ifCond .eq 37, 3) := by decide +kernel
theorem dX11_isLawfulTo_25 : decode cX11_isLawfulTo 25 = .ok (.aload_n 0, 1) := by decide +kernel
theorem dX11_isLawfulTo_26 : decode cX11_isLawfulTo 26 = .ok (.iload_n 2, 1) := by decide +kernel
theorem dX11_isLawfulTo_27 : decode cX11_isLawfulTo 27 = .ok (.aload_n 0, 1) := by decide +kernel
theorem dX11_isLawfulTo_28 : decode cX11_isLawfulTo 28 = .ok (.getfield 44, 3) := by decide +kernel
theorem dX11_isLawfulTo_31 : decode cX11_isLawfulTo 31 = .ok (.bipush 40, 2) := by decide +kernel
theorem dX11_isLawfulTo_33 : decode cX11_isLawfulTo 33 = .ok (.iload_n 1, 1) := by decide +kernel
theorem dX11_isLawfulTo_34 : decode cX11_isLawfulTo 34 = .ok (.imul, 1) := by decide +kernel
theorem dX11_isLawfulTo_35 : decode cX11_isLawfulTo 35 = .ok (.iaload, 1) := by decide +kernel
theorem dX11_isLawfulTo_36 : decode cX11_isLawfulTo 36 = .ok (.aload_n 0, 1) := by decide +kernel
theorem dX11_isLawfulTo_37 : decode cX11_isLawfulTo 37 = .ok (.getfield 47, 3) := by decide +kernel
theorem dX11_isLawfulTo_40 : decode cX11_isLawfulTo 40 = .ok (.bipush 40, 2) := by decide +kernel
theorem dX11_isLawfulTo_42 : decode cX11_isLawfulTo 42 = .ok (.iload_n 1, 1) := by decide +kernel
theorem dX11_isLawfulTo_43 : decode cX11_isLawfulTo 43 = .ok (.imul, 1) := by decide +kernel
theorem dX11_isLawfulTo_44 : decode cX11_isLawfulTo 44 = .ok (.iaload, 1) := by decide +kernel
theorem dX11_isLawfulTo_45 : decode cX11_isLawfulTo 45 = .ok (.invokevirtual 204, 3) := by decide +kernel
theorem dX11_isLawfulTo_48 : decode cX11_isLawfulTo 48 = .ok (.aload_n 0, 1) := by decide +kernel
theorem dX11_isLawfulTo_49 : decode cX11_isLawfulTo 49 = .ok (.getfield 95, 3) := by decide +kernel
theorem dX11_isLawfulTo_52 : decode cX11_isLawfulTo 52 = .ok (.iload_n 2, 1) := by decide +kernel
theorem dX11_isLawfulTo_53 : decode cX11_isLawfulTo 53 = .ok (.baload, 1) := by decide +kernel
theorem dX11_isLawfulTo_54 : decode cX11_isLawfulTo 54 = .ok (.if_icmp .eq 5, 3) := by decide +kernel
theorem dX11_isLawfulTo_57 : decode cX11_isLawfulTo 57 = .ok (.iconst 0, 1) := by decide +kernel
theorem dX11_isLawfulTo_58 : decode cX11_isLawfulTo 58 = .ok (.ireturn, 1) := by decide +kernel
theorem dX11_isLawfulTo_59 : decode cX11_isLawfulTo 59 = .ok (.iconst 0, 1) := by decide +kernel
theorem dX11_isLawfulTo_60 : decode cX11_isLawfulTo 60 = .ok (.istore 5, 2) := by decide +kernel
theorem dX11_isLawfulTo_62 : decode cX11_isLawfulTo 62 = .ok (.iload 5, 2) := by decide +kernel
theorem dX11_isLawfulTo_64 : decode cX11_isLawfulTo 64 = .ok (.aload_n 0, 1) := by decide +kernel
theorem dX11_isLawfulTo_65 : decode cX11_isLawfulTo 65 = .ok (.getfield 41, 3) := by decide +kernel
theorem dX11_isLawfulTo_68 : decode cX11_isLawfulTo 68 = .ok (.iload_n 2, 1) := by decide +kernel
theorem dX11_isLawfulTo_69 : decode cX11_isLawfulTo 69 = .ok (.iaload, 1) := by decide +kernel
theorem dX11_isLawfulTo_70 : decode cX11_isLawfulTo 70 = .ok (.if_icmp .ge 121, 3) := by decide +kernel
theorem dX11_isLawfulTo_73 : decode cX11_isLawfulTo 73 = .ok (.aload_n 0, 1) := by decide +kernel
theorem dX11_isLawfulTo_74 : decode cX11_isLawfulTo 74 = .ok (.getfield 44, 3) := by decide +kernel
theorem dX11_isLawfulTo_77 : decode cX11_isLawfulTo 77 = .ok (.bipush 40, 2) := by decide +kernel
theorem dX11_isLawfulTo_79 : decode cX11_isLawfulTo 79 = .ok (.iload_n 2, 1) := by decide +kernel
theorem dX11_isLawfulTo_80 : decode cX11_isLawfulTo 80 = .ok (.imul, 1) := by decide +kernel
theorem dX11_isLawfulTo_81 : decode cX11_isLawfulTo 81 = .ok (.iload 5, 2) := by decide +kernel
theorem dX11_isLawfulTo_83 : decode cX11_isLawfulTo 83 = .ok (.iadd, 1) := by decide +kernel
theorem dX11_isLawfulTo_84 : decode cX11_isLawfulTo 84 = .ok (.iaload, 1) := by decide +kernel
theorem dX11_isLawfulTo_85 : decode cX11_isLawfulTo 85 = .ok (.istore 6, 2) := by decide +kernel
theorem dX11_isLawfulTo_87 : decode cX11_isLawfulTo 87 = .ok (.aload_n 0, 1) := by decide +kernel
theorem dX11_isLawfulTo_88 : decode cX11_isLawfulTo 88 = .ok (.getfield 47, 3) := by decide +kernel
theorem dX11_isLawfulTo_91 : decode cX11_isLawfulTo 91 = .ok (.bipush 40, 2) := by decide +kernel
theorem dX11_isLawfulTo_93 : decode cX11_isLawfulTo 93 = .ok (.iload_n 2, 1) := by decide +kernel
theorem dX11_isLawfulTo_94 : decode cX11_isLawfulTo 94 = .ok (.imul, 1) := by decide +kernel
theorem dX11_isLawfulTo_95 : decode cX11_isLawfulTo 95 = .ok (.iload 5, 2) := by decide +kernel
theorem dX11_isLawfulTo_97 : decode cX11_isLawfulTo 97 = .ok (.iadd, 1) := by decide +kernel
theorem dX11_isLawfulTo_98 : decode cX11_isLawfulTo 98 = .ok (.iaload, 1) := by decide +kernel
theorem dX11_isLawfulTo_99 : decode cX11_isLawfulTo 99 = .ok (.istore 7, 2) := by decide +kernel
theorem dX11_isLawfulTo_101 : decode cX11_isLawfulTo 101 = .ok (.aload_n 0, 1) := by decide +kernel
theorem dX11_isLawfulTo_102 : decode cX11_isLawfulTo 102 = .ok (.iload_n 1, 1) := by decide +kernel
theorem dX11_isLawfulTo_103 : decode cX11_isLawfulTo 103 = .ok (.invokevirtual 161, 3) := by decide +kernel
theorem dX11_isLawfulTo_106 : decode cX11_isLawfulTo 106 = .ok (.ifCond .eq 29, 3) := by decide +kernel
theorem dX11_isLawfulTo_109 : decode cX11_isLawfulTo 109 = .ok (.aload_n 0, 1) := by decide +kernel
theorem dX11_isLawfulTo_110 : decode cX11_isLawfulTo 110 = .ok (.iload_n 1, 1) := by decide +kernel
theorem dX11_isLawfulTo_111 : decode cX11_isLawfulTo 111 = .ok (.iload 6, 2) := by decide +kernel
theorem dX11_isLawfulTo_113 : decode cX11_isLawfulTo 113 = .ok (.iload 7, 2) := by decide +kernel
theorem dX11_isLawfulTo_115 : decode cX11_isLawfulTo 115 = .ok (.invokevirtual 204, 3) := by decide +kernel
theorem dX11_isLawfulTo_118 : decode cX11_isLawfulTo 118 = .ok (.aload_n 0, 1) := by decide +kernel
theorem dX11_isLawfulTo_119 : decode cX11_isLawfulTo 119 = .ok (.getfield 98, 3) := by decide +kernel
theorem dX11_isLawfulTo_122 : decode cX11_isLawfulTo 122 = .ok (.bipush 40, 2) := by decide +kernel
theorem dX11_isLawfulTo_124 : decode cX11_isLawfulTo 124 = .ok (.iload_n 2, 1) := by decide +kernel
theorem dX11_isLawfulTo_125 : decode cX11_isLawfulTo 125 = .ok (.imul, 1) := by decide +kernel
theorem dX11_isLawfulTo_126 : decode cX11_isLawfulTo 126 = .ok (.iload 5, 2) := by decide +kernel
theorem dX11_isLawfulTo_128 : decode cX11_isLawfulTo 128 = .ok (.iadd, 1) := by decide +kernel
theorem dX11_isLawfulTo_129 : decode cX11_isLawfulTo 129 = .ok (.baload, 1) := by decide +kernel
theorem dX11_isLawfulTo_130 : decode cX11_isLawfulTo 130 = .ok (.if_icmp .eq 5, 3) := by decide +kernel
theorem dX11_isLawfulTo_133 : decode cX11_isLawfulTo 133 = .ok (.iconst 0, 1) := by decide +kernel
theorem dX11_isLawfulTo_134 : decode cX11_isLawfulTo 134 = .ok (.ireturn, 1) := by decide +kernel
theorem dX11_isLawfulTo_135 : decode cX11_isLawfulTo 135 = .ok (.aload_n 0, 1) := by decide +kernel
theorem dX11_isLawfulTo_136 : decode cX11_isLawfulTo 136 = .ok (.getfield 7, 3) := by decide +kernel
theorem dX11_isLawfulTo_139 : decode cX11_isLawfulTo 139 = .ok (.iload_n 1, 1) := by decide +kernel
theorem dX11_isLawfulTo_140 : decode cX11_isLawfulTo 140 = .ok (.iaload, 1) := by decide +kernel
theorem dX11_isLawfulTo_141 : decode cX11_isLawfulTo 141 = .ok (.ifCond .eq 44, 3) := by decide +kernel
theorem dX11_isLawfulTo_144 : decode cX11_isLawfulTo 144 = .ok (.iload_n 3, 1) := by decide +kernel
theorem dX11_isLawfulTo_145 : decode cX11_isLawfulTo 145 = .ok (.iconst 5, 1) := by decide +kernel
theorem dX11_isLawfulTo_146 : decode cX11_isLawfulTo 146 = .ok (.if_icmp .eq 39, 3) := by decide +kernel
theorem dX11_isLawfulTo_149 : decode cX11_isLawfulTo 149 = .ok (.iload 4, 2) := by decide +kernel
theorem dX11_isLawfulTo_151 : decode cX11_isLawfulTo 151 = .ok (.iconst (-1), 1) := by decide +kernel
theorem dX11_isLawfulTo_152 : decode cX11_isLawfulTo 152 = .ok (.if_icmp .eq 19, 3) := by decide +kernel
theorem dX11_isLawfulTo_155 : decode cX11_isLawfulTo 155 = .ok (.aload_n 0, 1) := by decide +kernel
theorem dX11_isLawfulTo_156 : decode cX11_isLawfulTo 156 = .ok (.iload 4, 2) := by decide +kernel
theorem dX11_isLawfulTo_158 : decode cX11_isLawfulTo 158 = .ok (.iload 6, 2) := by decide +kernel
theorem dX11_isLawfulTo_160 : decode cX11_isLawfulTo 160 = .ok (.iload 7, 2) := by decide +kernel
theorem dX11_isLawfulTo_162 : decode cX11_isLawfulTo 162 = .ok (.invokevirtual 217, 3) := by decide +kernel
theorem dX11_isLawfulTo_165 : decode cX11_isLawfulTo 165 = .ok (.ifCond .eq 20, 3) := by decide +kernel
theorem dX11_isLawfulTo_168 : decode cX11_isLawfulTo 168 = .ok (.goto 15, 3) := by decide +kernel
theorem dX11_isLawfulTo_171 : decode cX11_isLawfulTo 171 = .ok (.aload_n 0, 1) := by decide +kernel
theorem dX11_isLawfulTo_172 : decode cX11_isLawfulTo 172 = .ok (.iload_n 1, 1) := by decide +kernel
theorem dX11_isLawfulTo_173 : decode cX11_isLawfulTo 173 = .ok (.iload 6, 2) := by decide +kernel
theorem dX11_isLawfulTo_175 : decode cX11_isLawfulTo 175 = .ok (.iload 7, 2) := by decide +kernel
theorem dX11_isLawfulTo_177 : decode cX11_isLawfulTo 177 = .ok (.invokevirtual 220, 3) := by decide +kernel
theorem dX11_isLawfulTo_180 : decode cX11_isLawfulTo 180 = .ok (.ifCond .eq 5, 3) := by decide +kernel
theorem dX11_isLawfulTo_183 : decode cX11_isLawfulTo 183 = .ok (.iconst 0, 1) := by decide +kernel
theorem dX11_isLawfulTo_184 : decode cX11_isLawfulTo 184 = .ok (.ireturn, 1) := by decide +kernel
theorem dX11_isLawfulTo_185 : decode cX11_isLawfulTo 185 = .ok (.iinc 5 1, 3) := by decide +kernel
theorem dX11_isLawfulTo_188 : decode cX11_isLawfulTo 188 = .ok (.goto (-126), 3) := by decide +kernel
theorem dX11_isLawfulTo_191 : decode cX11_isLawfulTo 191 = .ok (.aload_n 0, 1) := by decide +kernel
theorem dX11_isLawfulTo_192 : decode cX11_isLawfulTo 192 = .ok (.getfield 7, 3) := by decide +kernel
theorem dX11_isLawfulTo_195 : decode cX11_isLawfulTo 195 = .ok (.iload_n 1, 1) := by decide +kernel
theorem dX11_isLawfulTo_196 : decode cX11_isLawfulTo 196 = .ok (.iaload, 1) := by decide +kernel
theorem dX11_isLawfulTo_197 : decode cX11_isLawfulTo 197 = .ok (.ifCond .ne 12, 3) := by decide +kernel
theorem dX11_isLawfulTo_200 : decode cX11_isLawfulTo 200 = .ok (.aload_n 0, 1) := by decide +kernel
theorem dX11_isLawfulTo_201 : decode cX11_isLawfulTo 201 = .ok (.iload_n 1, 1) := by decide +kernel
theorem dX11_isLawfulTo_202 : decode cX11_isLawfulTo 202 = .ok (.iload_n 2, 1) := by decide +kernel
theorem dX11_isLawfulTo_203 : decode cX11_isLawfulTo 203 = .ok (.invokevirtual 223, 3) := by decide +kernel
theorem dX11_isLawfulTo_206 : decode cX11_isLawfulTo 206 = .ok (.ifCond .eq 7, 3) := by decide +kernel
theorem dX11_isLawfulTo_209 : decode cX11_isLawfulTo 209 = .ok (.iconst 1, 1) := by decide +kernel
theorem dX11_isLawfulTo_210 : decode cX11_isLawfulTo 210 = .ok (.goto 4, 3) := by decide +kernel
theorem dX11_isLawfulTo_213 : decode cX11_isLawfulTo 213 = .ok (.iconst 0, 1) := by decide +kernel
theorem dX11_isLawfulTo_214 : decode cX11_isLawfulTo 214 = .ok (.ireturn, 1) := by decide +kernel
theorem dX11_isThree_0 : decode cX11_isThree 0 = .ok (.aload_n 0, 1) := by decide +kernel
theorem dX11_isThree_1 : decode cX11_isThree 1 = .ok (.getfield 101, 3) := by decide +kernel
theorem dX11_isThree_4 : decode cX11_isThree 4 = .ok (.iconst 0, 1) := by decide +kernel
theorem dX11_isThree_5 : decode cX11_isThree 5 = .ok (.iload_n 1, 1) := by decide +kernel
theorem dX11_isThree_6 : decode cX11_isThree 6 = .ok (.iastore, 1) := by decide +kernel
theorem dX11_isThree_7 : decode cX11_isThree 7 = .ok (.aload_n 0, 1) := by decide +kernel
theorem dX11_isThree_8 : decode cX11_isThree 8 = .ok (.getfield 101, 3) := by decide +kernel
theorem dX11_isThree_11 : decode cX11_isThree 11 = .ok (.iconst 1, 1) := by decide +kernel
theorem dX11_isThree_12 : decode cX11_isThree 12 = .ok (.iload_n 2, 1) := by decide +kernel
theorem dX11_isThree_13 : decode cX11_isThree 13 = .ok (.iastore, 1) := by decide +kernel
theorem dX11_isThree_14 : decode cX11_isThree 14 = .ok (.aload_n 0, 1) := by decide +kernel
theorem dX11_isThree_15 : decode cX11_isThree 15 = .ok (.getfield 101, 3) := by decide +kernel
theorem dX11_isThree_18 : decode cX11_isThree 18 = .ok (.iconst 2, 1) := by decide +kernel
theorem dX11_isThree_19 : decode cX11_isThree 19 = .ok (.iload_n 3, 1) := by decide +kernel
theorem dX11_isThree_20 : decode cX11_isThree 20 = .ok (.iastore, 1) := by decide +kernel
theorem dX11_isThree_21 : decode cX11_isThree 21 = .ok (.aload_n 0, 1) := by decide +kernel
theorem dX11_isThree_22 : decode cX11_isThree 22 = .ok (.getfield 101, 3) := by decide +kernel
theorem dX11_isThree_25 : decode cX11_isThree 25 = .ok (.iconst 3, 1) := by decide +kernel
theorem dX11_isThree_26 : decode cX11_isThree 26 = .ok (.iload 4, 2) := by decide +kernel
theorem dX11_isThree_28 : decode cX11_isThree 28 = .ok (.iastore, 1) := by decide +kernel
theorem dX11_isThree_29 : decode cX11_isThree 29 = .ok (.aload_n 0, 1) := by decide +kernel
theorem dX11_isThree_30 : decode cX11_isThree 30 = .ok (.getfield 101, 3) := by decide +kernel
theorem dX11_isThree_33 : decode cX11_isThree 33 = .ok (.iconst 4, 1) := by decide +kernel
theorem dX11_isThree_34 : decode cX11_isThree 34 = .ok (.aload_n 0, 1) := by decide +kernel
theorem dX11_isThree_35 : decode cX11_isThree 35 = .ok (.getfield 77, 3) := by decide +kernel
theorem dX11_isThree_38 : decode cX11_isThree 38 = .ok (.iload 5, 2) := by decide +kernel
theorem dX11_isThree_40 : decode cX11_isThree 40 = .ok (.iaload, 1) := by decide +kernel
theorem dX11_isThree_41 : decode cX11_isThree 41 = .ok (.iastore, 1) := by decide +kernel
theorem dX11_isThree_42 : decode cX11_isThree 42 = .ok (.aload_n 0, 1) := by decide +kernel
theorem dX11_isThree_43 : decode cX11_isThree 43 = .ok (.getfield 101, 3) := by decide +kernel
theorem dX11_isThree_46 : decode cX11_isThree 46 = .ok (.iconst 5, 1) := by decide +kernel
theorem dX11_isThree_47 : decode cX11_isThree 47 = .ok (.aload_n 0, 1) := by decide +kernel
theorem dX11_isThree_48 : decode cX11_isThree 48 = .ok (.getfield 80, 3) := by decide +kernel
theorem dX11_isThree_51 : decode cX11_isThree 51 = .ok (.iload 5, 2) := by decide +kernel
theorem dX11_isThree_53 : decode cX11_isThree 53 = .ok (.iaload, 1) := by decide +kernel
theorem dX11_isThree_54 : decode cX11_isThree 54 = .ok (.iastore, 1) := by decide +kernel
theorem dX11_isThree_55 : decode cX11_isThree 55 = .ok (.aload_n 0, 1) := by decide +kernel
theorem dX11_isThree_56 : decode cX11_isThree 56 = .ok (.getfield 101, 3) := by decide +kernel
theorem dX11_isThree_59 : decode cX11_isThree 59 = .ok (.iload 6, 2) := by decide +kernel
theorem dX11_isThree_61 : decode cX11_isThree 61 = .ok (.iload 7, 2) := by decide +kernel
theorem dX11_isThree_63 : decode cX11_isThree 63 = .ok (.invokestatic 226, 3) := by decide +kernel
theorem dX11_isThree_66 : decode cX11_isThree 66 = .ok (.ireturn, 1) := by decide +kernel
theorem dX11_isSweptBy_0 : decode cX11_isSweptBy 0 = .ok (.iload_n 1, 1) := by decide +kernel
theorem dX11_isSweptBy_1 : decode cX11_isSweptBy 1 = .ok (.ifCond .ne 12, 3) := by decide +kernel
theorem dX11_isSweptBy_4 : decode cX11_isSweptBy 4 = .ok (.aload_n 0, 1) := by decide +kernel
theorem dX11_isSweptBy_5 : decode cX11_isSweptBy 5 = .ok (.getfield 191, 3) := by decide +kernel
theorem dX11_isSweptBy_8 : decode cX11_isSweptBy 8 = .ok (.iconst 1, 1) := by decide +kernel
theorem dX11_isSweptBy_9 : decode cX11_isSweptBy 9 = .ok (.isub, 1) := by decide +kernel
theorem dX11_isSweptBy_10 : decode cX11_isSweptBy 10 = .ok (.goto 6, 3) := by decide +kernel
theorem dX11_isSweptBy_13 : decode cX11_isSweptBy 13 = .ok (.iload_n 1, 1) := by decide +kernel
theorem dX11_isSweptBy_14 : decode cX11_isSweptBy 14 = .ok (.iconst 1, 1) := by decide +kernel
theorem dX11_isSweptBy_15 : decode cX11_isSweptBy 15 = .ok (.isub, 1) := by decide +kernel
theorem dX11_isSweptBy_16 : decode cX11_isSweptBy 16 = .ok (.istore 4, 2) := by decide +kernel
theorem dX11_isSweptBy_18 : decode cX11_isSweptBy 18 = .ok (.iload_n 1, 1) := by decide +kernel
theorem dX11_isSweptBy_19 : decode cX11_isSweptBy 19 = .ok (.iconst 1, 1) := by decide +kernel
theorem dX11_isSweptBy_20 : decode cX11_isSweptBy 20 = .ok (.iadd, 1) := by decide +kernel
theorem dX11_isSweptBy_21 : decode cX11_isSweptBy 21 = .ok (.aload_n 0, 1) := by decide +kernel
theorem dX11_isSweptBy_22 : decode cX11_isSweptBy 22 = .ok (.getfield 191, 3) := by decide +kernel
theorem dX11_isSweptBy_25 : decode cX11_isSweptBy 25 = .ok (.if_icmp .ne 7, 3) := by decide +kernel
theorem dX11_isSweptBy_28 : decode cX11_isSweptBy 28 = .ok (.iconst 0, 1) := by decide +kernel
theorem dX11_isSweptBy_29 : decode cX11_isSweptBy 29 = .ok (.goto 6, 3) := by decide +kernel
theorem dX11_isSweptBy_32 : decode cX11_isSweptBy 32 = .ok (.iload_n 1, 1) := by decide +kernel
theorem dX11_isSweptBy_33 : decode cX11_isSweptBy 33 = .ok (.iconst 1, 1) := by decide +kernel
theorem dX11_isSweptBy_34 : decode cX11_isSweptBy 34 = .ok (.iadd, 1) := by decide +kernel
theorem dX11_isSweptBy_35 : decode cX11_isSweptBy 35 = .ok (.istore 5, 2) := by decide +kernel
theorem dX11_isSweptBy_37 : decode cX11_isSweptBy 37 = .ok (.iload_n 2, 1) := by decide +kernel
theorem dX11_isSweptBy_38 : decode cX11_isSweptBy 38 = .ok (.aload_n 0, 1) := by decide +kernel
theorem dX11_isSweptBy_39 : decode cX11_isSweptBy 39 = .ok (.getfield 86, 3) := by decide +kernel
theorem dX11_isSweptBy_42 : decode cX11_isSweptBy 42 = .ok (.iload 4, 2) := by decide +kernel
theorem dX11_isSweptBy_44 : decode cX11_isSweptBy 44 = .ok (.iaload, 1) := by decide +kernel
theorem dX11_isSweptBy_45 : decode cX11_isSweptBy 45 = .ok (.if_icmp .ne 14, 3) := by decide +kernel
theorem dX11_isSweptBy_48 : decode cX11_isSweptBy 48 = .ok (.iload_n 3, 1) := by decide +kernel
theorem dX11_isSweptBy_49 : decode cX11_isSweptBy 49 = .ok (.aload_n 0, 1) := by decide +kernel
theorem dX11_isSweptBy_50 : decode cX11_isSweptBy 50 = .ok (.getfield 89, 3) := by decide +kernel
theorem dX11_isSweptBy_53 : decode cX11_isSweptBy 53 = .ok (.iload 4, 2) := by decide +kernel
theorem dX11_isSweptBy_55 : decode cX11_isSweptBy 55 = .ok (.iaload, 1) := by decide +kernel
theorem dX11_isSweptBy_56 : decode cX11_isSweptBy 56 = .ok (.if_icmp .eq 25, 3) := by decide +kernel
theorem dX11_isSweptBy_59 : decode cX11_isSweptBy 59 = .ok (.iload_n 2, 1) := by decide +kernel
theorem dX11_isSweptBy_60 : decode cX11_isSweptBy 60 = .ok (.aload_n 0, 1) := by decide +kernel
theorem dX11_isSweptBy_61 : decode cX11_isSweptBy 61 = .ok (.getfield 86, 3) := by decide +kernel
theorem dX11_isSweptBy_64 : decode cX11_isSweptBy 64 = .ok (.iload 5, 2) := by decide +kernel
theorem dX11_isSweptBy_66 : decode cX11_isSweptBy 66 = .ok (.iaload, 1) := by decide +kernel
theorem dX11_isSweptBy_67 : decode cX11_isSweptBy 67 = .ok (.if_icmp .ne 16, 3) := by decide +kernel
theorem dX11_isSweptBy_70 : decode cX11_isSweptBy 70 = .ok (.iload_n 3, 1) := by decide +kernel
theorem dX11_isSweptBy_71 : decode cX11_isSweptBy 71 = .ok (.aload_n 0, 1) := by decide +kernel
theorem dX11_isSweptBy_72 : decode cX11_isSweptBy 72 = .ok (.getfield 89, 3) := by decide +kernel
theorem dX11_isSweptBy_75 : decode cX11_isSweptBy 75 = .ok (.iload 5, 2) := by decide +kernel
theorem dX11_isSweptBy_77 : decode cX11_isSweptBy 77 = .ok (.iaload, 1) := by decide +kernel
theorem dX11_isSweptBy_78 : decode cX11_isSweptBy 78 = .ok (.if_icmp .ne 5, 3) := by decide +kernel
theorem dX11_isSweptBy_81 : decode cX11_isSweptBy 81 = .ok (.iconst 0, 1) := by decide +kernel
theorem dX11_isSweptBy_82 : decode cX11_isSweptBy 82 = .ok (.ireturn, 1) := by decide +kernel
theorem dX11_isSweptBy_83 : decode cX11_isSweptBy 83 = .ok (.aload_n 0, 1) := by decide +kernel
theorem dX11_isSweptBy_84 : decode cX11_isSweptBy 84 = .ok (.getfield 101, 3) := by decide +kernel
theorem dX11_isSweptBy_87 : decode cX11_isSweptBy 87 = .ok (.iconst 0, 1) := by decide +kernel
theorem dX11_isSweptBy_88 : decode cX11_isSweptBy 88 = .ok (.aload_n 0, 1) := by decide +kernel
theorem dX11_isSweptBy_89 : decode cX11_isSweptBy 89 = .ok (.getfield 86, 3) := by decide +kernel
theorem dX11_isSweptBy_92 : decode cX11_isSweptBy 92 = .ok (.iload 4, 2) := by decide +kernel
theorem dX11_isSweptBy_94 : decode cX11_isSweptBy 94 = .ok (.iaload, 1) := by decide +kernel
theorem dX11_isSweptBy_95 : decode cX11_isSweptBy 95 = .ok (.iastore, 1) := by decide +kernel
theorem dX11_isSweptBy_96 : decode cX11_isSweptBy 96 = .ok (.aload_n 0, 1) := by decide +kernel
theorem dX11_isSweptBy_97 : decode cX11_isSweptBy 97 = .ok (.getfield 101, 3) := by decide +kernel
theorem dX11_isSweptBy_100 : decode cX11_isSweptBy 100 = .ok (.iconst 1, 1) := by decide +kernel
theorem dX11_isSweptBy_101 : decode cX11_isSweptBy 101 = .ok (.aload_n 0, 1) := by decide +kernel
theorem dX11_isSweptBy_102 : decode cX11_isSweptBy 102 = .ok (.getfield 89, 3) := by decide +kernel
theorem dX11_isSweptBy_105 : decode cX11_isSweptBy 105 = .ok (.iload 4, 2) := by decide +kernel
theorem dX11_isSweptBy_107 : decode cX11_isSweptBy 107 = .ok (.iaload, 1) := by decide +kernel
theorem dX11_isSweptBy_108 : decode cX11_isSweptBy 108 = .ok (.iastore, 1) := by decide +kernel
theorem dX11_isSweptBy_109 : decode cX11_isSweptBy 109 = .ok (.aload_n 0, 1) := by decide +kernel
theorem dX11_isSweptBy_110 : decode cX11_isSweptBy 110 = .ok (.getfield 101, 3) := by decide +kernel
theorem dX11_isSweptBy_113 : decode cX11_isSweptBy 113 = .ok (.iconst 2, 1) := by decide +kernel
theorem dX11_isSweptBy_114 : decode cX11_isSweptBy 114 = .ok (.aload_n 0, 1) := by decide +kernel
theorem dX11_isSweptBy_115 : decode cX11_isSweptBy 115 = .ok (.getfield 86, 3) := by decide +kernel
theorem dX11_isSweptBy_118 : decode cX11_isSweptBy 118 = .ok (.iload_n 1, 1) := by decide +kernel
theorem dX11_isSweptBy_119 : decode cX11_isSweptBy 119 = .ok (.iaload, 1) := by decide +kernel
theorem dX11_isSweptBy_120 : decode cX11_isSweptBy 120 = .ok (.iastore, 1) := by decide +kernel
theorem dX11_isSweptBy_121 : decode cX11_isSweptBy 121 = .ok (.aload_n 0, 1) := by decide +kernel
theorem dX11_isSweptBy_122 : decode cX11_isSweptBy 122 = .ok (.getfield 101, 3) := by decide +kernel
theorem dX11_isSweptBy_125 : decode cX11_isSweptBy 125 = .ok (.iconst 3, 1) := by decide +kernel
theorem dX11_isSweptBy_126 : decode cX11_isSweptBy 126 = .ok (.aload_n 0, 1) := by decide +kernel
theorem dX11_isSweptBy_127 : decode cX11_isSweptBy 127 = .ok (.getfield 89, 3) := by decide +kernel
theorem dX11_isSweptBy_130 : decode cX11_isSweptBy 130 = .ok (.iload_n 1, 1) := by decide +kernel
theorem dX11_isSweptBy_131 : decode cX11_isSweptBy 131 = .ok (.iaload, 1) := by decide +kernel
theorem dX11_isSweptBy_132 : decode cX11_isSweptBy 132 = .ok (.iastore, 1) := by decide +kernel
theorem dX11_isSweptBy_133 : decode cX11_isSweptBy 133 = .ok (.aload_n 0, 1) := by decide +kernel
theorem dX11_isSweptBy_134 : decode cX11_isSweptBy 134 = .ok (.getfield 101, 3) := by decide +kernel
theorem dX11_isSweptBy_137 : decode cX11_isSweptBy 137 = .ok (.iconst 4, 1) := by decide +kernel
theorem dX11_isSweptBy_138 : decode cX11_isSweptBy 138 = .ok (.aload_n 0, 1) := by decide +kernel
theorem dX11_isSweptBy_139 : decode cX11_isSweptBy 139 = .ok (.getfield 86, 3) := by decide +kernel
theorem dX11_isSweptBy_142 : decode cX11_isSweptBy 142 = .ok (.iload 5, 2) := by decide +kernel
theorem dX11_isSweptBy_144 : decode cX11_isSweptBy 144 = .ok (.iaload, 1) := by decide +kernel
theorem dX11_isSweptBy_145 : decode cX11_isSweptBy 145 = .ok (.iastore, 1) := by decide +kernel
theorem dX11_isSweptBy_146 : decode cX11_isSweptBy 146 = .ok (.aload_n 0, 1) := by decide +kernel
theorem dX11_isSweptBy_147 : decode cX11_isSweptBy 147 = .ok (.getfield 101, 3) := by decide +kernel
theorem dX11_isSweptBy_150 : decode cX11_isSweptBy 150 = .ok (.iconst 5, 1) := by decide +kernel
theorem dX11_isSweptBy_151 : decode cX11_isSweptBy 151 = .ok (.aload_n 0, 1) := by decide +kernel
theorem dX11_isSweptBy_152 : decode cX11_isSweptBy 152 = .ok (.getfield 89, 3) := by decide +kernel
theorem dX11_isSweptBy_155 : decode cX11_isSweptBy 155 = .ok (.iload 5, 2) := by decide +kernel
theorem dX11_isSweptBy_157 : decode cX11_isSweptBy 157 = .ok (.iaload, 1) := by decide +kernel
theorem dX11_isSweptBy_158 : decode cX11_isSweptBy 158 = .ok (.iastore, 1) := by decide +kernel
theorem dX11_isSweptBy_159 : decode cX11_isSweptBy 159 = .ok (.aload_n 0, 1) := by decide +kernel
theorem dX11_isSweptBy_160 : decode cX11_isSweptBy 160 = .ok (.getfield 101, 3) := by decide +kernel
theorem dX11_isSweptBy_163 : decode cX11_isSweptBy 163 = .ok (.iload_n 2, 1) := by decide +kernel
theorem dX11_isSweptBy_164 : decode cX11_isSweptBy 164 = .ok (.iload_n 3, 1) := by decide +kernel
theorem dX11_isSweptBy_165 : decode cX11_isSweptBy 165 = .ok (.invokestatic 226, 3) := by decide +kernel
theorem dX11_isSweptBy_168 : decode cX11_isSweptBy 168 = .ok (.ireturn, 1) := by decide +kernel
theorem dX11_isSwept_0 : decode cX11_isSwept 0 = .ok (.aload_n 0, 1) := by decide +kernel
theorem dX11_isSwept_1 : decode cX11_isSwept 1 = .ok (.iload_n 1, 1) := by decide +kernel
theorem dX11_isSwept_2 : decode cX11_isSwept 2 = .ok (.invokevirtual 230, 3) := by decide +kernel
theorem dX11_isSwept_5 : decode cX11_isSwept 5 = .ok (.iconst 0, 1) := by decide +kernel
theorem dX11_isSwept_6 : decode cX11_isSwept 6 = .ok (.istore 4, 2) := by decide +kernel
theorem dX11_isSwept_8 : decode cX11_isSwept 8 = .ok (.iload 4, 2) := by decide +kernel
theorem dX11_isSwept_10 : decode cX11_isSwept 10 = .ok (.aload_n 0, 1) := by decide +kernel
theorem dX11_isSwept_11 : decode cX11_isSwept 11 = .ok (.iload_n 1, 1) := by decide +kernel
theorem dX11_isSwept_12 : decode cX11_isSwept 12 = .ok (.invokevirtual 164, 3) := by decide +kernel
theorem dX11_isSwept_15 : decode cX11_isSwept 15 = .ok (.if_icmp .ge 259, 3) := by decide +kernel
theorem dX11_isSwept_18 : decode cX11_isSwept 18 = .ok (.iload 4, 2) := by decide +kernel
theorem dX11_isSwept_20 : decode cX11_isSwept 20 = .ok (.iconst 1, 1) := by decide +kernel
theorem dX11_isSwept_21 : decode cX11_isSwept 21 = .ok (.iadd, 1) := by decide +kernel
theorem dX11_isSwept_22 : decode cX11_isSwept 22 = .ok (.aload_n 0, 1) := by decide +kernel
theorem dX11_isSwept_23 : decode cX11_isSwept 23 = .ok (.getfield 191, 3) := by decide +kernel
theorem dX11_isSwept_26 : decode cX11_isSwept 26 = .ok (.if_icmp .ne 7, 3) := by decide +kernel
theorem dX11_isSwept_29 : decode cX11_isSwept 29 = .ok (.iconst 0, 1) := by decide +kernel
theorem dX11_isSwept_30 : decode cX11_isSwept 30 = .ok (.goto 7, 3) := by decide +kernel
theorem dX11_isSwept_33 : decode cX11_isSwept 33 = .ok (.iload 4, 2) := by decide +kernel
theorem dX11_isSwept_35 : decode cX11_isSwept 35 = .ok (.iconst 1, 1) := by decide +kernel
theorem dX11_isSwept_36 : decode cX11_isSwept 36 = .ok (.iadd, 1) := by decide +kernel
theorem dX11_isSwept_37 : decode cX11_isSwept 37 = .ok (.istore 5, 2) := by decide +kernel
theorem dX11_isSwept_39 : decode cX11_isSwept 39 = .ok (.aload_n 0, 1) := by decide +kernel
theorem dX11_isSwept_40 : decode cX11_isSwept 40 = .ok (.getfield 86, 3) := by decide +kernel
theorem dX11_isSwept_43 : decode cX11_isSwept 43 = .ok (.iload 4, 2) := by decide +kernel
theorem dX11_isSwept_45 : decode cX11_isSwept 45 = .ok (.iaload, 1) := by decide +kernel
theorem dX11_isSwept_46 : decode cX11_isSwept 46 = .ok (.aload_n 0, 1) := by decide +kernel
theorem dX11_isSwept_47 : decode cX11_isSwept 47 = .ok (.getfield 77, 3) := by decide +kernel
theorem dX11_isSwept_50 : decode cX11_isSwept 50 = .ok (.iload 4, 2) := by decide +kernel
theorem dX11_isSwept_52 : decode cX11_isSwept 52 = .ok (.iaload, 1) := by decide +kernel
theorem dX11_isSwept_53 : decode cX11_isSwept 53 = .ok (.if_icmp .ne 24, 3) := by decide +kernel
theorem dX11_isSwept_56 : decode cX11_isSwept 56 = .ok (.aload_n 0, 1) := by decide +kernel
theorem dX11_isSwept_57 : decode cX11_isSwept 57 = .ok (.getfield 89, 3) := by decide +kernel
theorem dX11_isSwept_60 : decode cX11_isSwept 60 = .ok (.iload 4, 2) := by decide +kernel
theorem dX11_isSwept_62 : decode cX11_isSwept 62 = .ok (.iaload, 1) := by decide +kernel
theorem dX11_isSwept_63 : decode cX11_isSwept 63 = .ok (.aload_n 0, 1) := by decide +kernel
theorem dX11_isSwept_64 : decode cX11_isSwept 64 = .ok (.getfield 80, 3) := by decide +kernel
theorem dX11_isSwept_67 : decode cX11_isSwept 67 = .ok (.iload 4, 2) := by decide +kernel
theorem dX11_isSwept_69 : decode cX11_isSwept 69 = .ok (.iaload, 1) := by decide +kernel
theorem dX11_isSwept_70 : decode cX11_isSwept 70 = .ok (.if_icmp .ne 7, 3) := by decide +kernel
theorem dX11_isSwept_73 : decode cX11_isSwept 73 = .ok (.iconst 1, 1) := by decide +kernel
theorem dX11_isSwept_74 : decode cX11_isSwept 74 = .ok (.goto 4, 3) := by decide +kernel
theorem dX11_isSwept_77 : decode cX11_isSwept 77 = .ok (.iconst 0, 1) := by decide +kernel
theorem dX11_isSwept_78 : decode cX11_isSwept 78 = .ok (.istore 6, 2) := by decide +kernel
theorem dX11_isSwept_80 : decode cX11_isSwept 80 = .ok (.aload_n 0, 1) := by decide +kernel
theorem dX11_isSwept_81 : decode cX11_isSwept 81 = .ok (.getfield 86, 3) := by decide +kernel
theorem dX11_isSwept_84 : decode cX11_isSwept 84 = .ok (.iload 5, 2) := by decide +kernel
theorem dX11_isSwept_86 : decode cX11_isSwept 86 = .ok (.iaload, 1) := by decide +kernel
theorem dX11_isSwept_87 : decode cX11_isSwept 87 = .ok (.aload_n 0, 1) := by decide +kernel
theorem dX11_isSwept_88 : decode cX11_isSwept 88 = .ok (.getfield 77, 3) := by decide +kernel
theorem dX11_isSwept_91 : decode cX11_isSwept 91 = .ok (.iload 5, 2) := by decide +kernel
theorem dX11_isSwept_93 : decode cX11_isSwept 93 = .ok (.iaload, 1) := by decide +kernel
theorem dX11_isSwept_94 : decode cX11_isSwept 94 = .ok (.if_icmp .ne 24, 3) := by decide +kernel
theorem dX11_isSwept_97 : decode cX11_isSwept 97 = .ok (.aload_n 0, 1) := by decide +kernel
theorem dX11_isSwept_98 : decode cX11_isSwept 98 = .ok (.getfield 89, 3) := by decide +kernel
theorem dX11_isSwept_101 : decode cX11_isSwept 101 = .ok (.iload 5, 2) := by decide +kernel
theorem dX11_isSwept_103 : decode cX11_isSwept 103 = .ok (.iaload, 1) := by decide +kernel
theorem dX11_isSwept_104 : decode cX11_isSwept 104 = .ok (.aload_n 0, 1) := by decide +kernel
theorem dX11_isSwept_105 : decode cX11_isSwept 105 = .ok (.getfield 80, 3) := by decide +kernel
theorem dX11_isSwept_108 : decode cX11_isSwept 108 = .ok (.iload 5, 2) := by decide +kernel
theorem dX11_isSwept_110 : decode cX11_isSwept 110 = .ok (.iaload, 1) := by decide +kernel
theorem dX11_isSwept_111 : decode cX11_isSwept 111 = .ok (.if_icmp .ne 7, 3) := by decide +kernel
theorem dX11_isSwept_114 : decode cX11_isSwept 114 = .ok (.iconst 1, 1) := by decide +kernel
theorem dX11_isSwept_115 : decode cX11_isSwept 115 = .ok (.goto 4, 3) := by decide +kernel
theorem dX11_isSwept_118 : decode cX11_isSwept 118 = .ok (.iconst 0, 1) := by decide +kernel
theorem dX11_isSwept_119 : decode cX11_isSwept 119 = .ok (.istore 7, 2) := by decide +kernel
theorem dX11_isSwept_121 : decode cX11_isSwept 121 = .ok (.iload 6, 2) := by decide +kernel
theorem dX11_isSwept_123 : decode cX11_isSwept 123 = .ok (.ifCond .eq 8, 3) := by decide +kernel
theorem dX11_isSwept_126 : decode cX11_isSwept 126 = .ok (.iload 7, 2) := by decide +kernel
theorem dX11_isSwept_128 : decode cX11_isSwept 128 = .ok (.ifCond .ne 140, 3) := by decide +kernel
theorem dX11_isSwept_131 : decode cX11_isSwept 131 = .ok (.iload 6, 2) := by decide +kernel
theorem dX11_isSwept_133 : decode cX11_isSwept 133 = .ok (.ifCond .eq 25, 3) := by decide +kernel
theorem dX11_isSwept_136 : decode cX11_isSwept 136 = .ok (.iload_n 2, 1) := by decide +kernel
theorem dX11_isSwept_137 : decode cX11_isSwept 137 = .ok (.aload_n 0, 1) := by decide +kernel
theorem dX11_isSwept_138 : decode cX11_isSwept 138 = .ok (.getfield 86, 3) := by decide +kernel
theorem dX11_isSwept_141 : decode cX11_isSwept 141 = .ok (.iload 4, 2) := by decide +kernel
theorem dX11_isSwept_143 : decode cX11_isSwept 143 = .ok (.iaload, 1) := by decide +kernel
theorem dX11_isSwept_144 : decode cX11_isSwept 144 = .ok (.if_icmp .ne 14, 3) := by decide +kernel
theorem dX11_isSwept_147 : decode cX11_isSwept 147 = .ok (.iload_n 3, 1) := by decide +kernel
theorem dX11_isSwept_148 : decode cX11_isSwept 148 = .ok (.aload_n 0, 1) := by decide +kernel
theorem dX11_isSwept_149 : decode cX11_isSwept 149 = .ok (.getfield 89, 3) := by decide +kernel
theorem dX11_isSwept_152 : decode cX11_isSwept 152 = .ok (.iload 4, 2) := by decide +kernel
theorem dX11_isSwept_154 : decode cX11_isSwept 154 = .ok (.iaload, 1) := by decide +kernel
theorem dX11_isSwept_155 : decode cX11_isSwept 155 = .ok (.if_icmp .eq 113, 3) := by decide +kernel
theorem dX11_isSwept_158 : decode cX11_isSwept 158 = .ok (.iload 7, 2) := by decide +kernel
theorem dX11_isSwept_160 : decode cX11_isSwept 160 = .ok (.ifCond .eq 28, 3) := by decide +kernel
theorem dX11_isSwept_163 : decode cX11_isSwept 163 = .ok (.iload_n 2, 1) := by decide +kernel
theorem dX11_isSwept_164 : decode cX11_isSwept 164 = .ok (.aload_n 0, 1) := by decide +kernel
theorem dX11_isSwept_165 : decode cX11_isSwept 165 = .ok (.getfield 86, 3) := by decide +kernel
theorem dX11_isSwept_168 : decode cX11_isSwept 168 = .ok (.iload 5, 2) := by decide +kernel
theorem dX11_isSwept_170 : decode cX11_isSwept 170 = .ok (.iaload, 1) := by decide +kernel
theorem dX11_isSwept_171 : decode cX11_isSwept 171 = .ok (.if_icmp .ne 17, 3) := by decide +kernel
theorem dX11_isSwept_174 : decode cX11_isSwept 174 = .ok (.iload_n 3, 1) := by decide +kernel
theorem dX11_isSwept_175 : decode cX11_isSwept 175 = .ok (.aload_n 0, 1) := by decide +kernel
theorem dX11_isSwept_176 : decode cX11_isSwept 176 = .ok (.getfield 89, 3) := by decide +kernel
theorem dX11_isSwept_179 : decode cX11_isSwept 179 = .ok (.iload 5, 2) := by decide +kernel
theorem dX11_isSwept_181 : decode cX11_isSwept 181 = .ok (.iaload, 1) := by decide +kernel
theorem dX11_isSwept_182 : decode cX11_isSwept 182 = .ok (.if_icmp .ne 6, 3) := by decide +kernel
theorem dX11_isSwept_185 : decode cX11_isSwept 185 = .ok (.goto 83, 3) := by decide +kernel
theorem dX11_isSwept_188 : decode cX11_isSwept 188 = .ok (.aload_n 0, 1) := by decide +kernel
theorem dX11_isSwept_189 : decode cX11_isSwept 189 = .ok (.aload_n 0, 1) := by decide +kernel
theorem dX11_isSwept_190 : decode cX11_isSwept 190 = .ok (.getfield 86, 3) := by decide +kernel
theorem dX11_isSwept_193 : decode cX11_isSwept 193 = .ok (.iload 4, 2) := by decide +kernel
theorem dX11_isSwept_195 : decode cX11_isSwept 195 = .ok (.iaload, 1) := by decide +kernel
theorem dX11_isSwept_196 : decode cX11_isSwept 196 = .ok (.aload_n 0, 1) := by decide +kernel
theorem dX11_isSwept_197 : decode cX11_isSwept 197 = .ok (.getfield 89, 3) := by decide +kernel
theorem dX11_isSwept_200 : decode cX11_isSwept 200 = .ok (.iload 4, 2) := by decide +kernel
theorem dX11_isSwept_202 : decode cX11_isSwept 202 = .ok (.iaload, 1) := by decide +kernel
theorem dX11_isSwept_203 : decode cX11_isSwept 203 = .ok (.aload_n 0, 1) := by decide +kernel
theorem dX11_isSwept_204 : decode cX11_isSwept 204 = .ok (.getfield 86, 3) := by decide +kernel
theorem dX11_isSwept_207 : decode cX11_isSwept 207 = .ok (.iload 5, 2) := by decide +kernel
theorem dX11_isSwept_209 : decode cX11_isSwept 209 = .ok (.iaload, 1) := by decide +kernel
theorem dX11_isSwept_210 : decode cX11_isSwept 210 = .ok (.aload_n 0, 1) := by decide +kernel
theorem dX11_isSwept_211 : decode cX11_isSwept 211 = .ok (.getfield 89, 3) := by decide +kernel
theorem dX11_isSwept_214 : decode cX11_isSwept 214 = .ok (.iload 5, 2) := by decide +kernel
theorem dX11_isSwept_216 : decode cX11_isSwept 216 = .ok (.iaload, 1) := by decide +kernel
theorem dX11_isSwept_217 : decode cX11_isSwept 217 = .ok (.iload 5, 2) := by decide +kernel
theorem dX11_isSwept_219 : decode cX11_isSwept 219 = .ok (.iload_n 2, 1) := by decide +kernel
theorem dX11_isSwept_220 : decode cX11_isSwept 220 = .ok (.iload_n 3, 1) := by decide +kernel
theorem dX11_isSwept_221 : decode cX11_isSwept 221 = .ok (.invokevirtual 234, 3) := by decide +kernel
theorem dX11_isSwept_224 : decode cX11_isSwept 224 = .ok (.ifCond .ne 42, 3) := by decide +kernel
theorem dX11_isSwept_227 : decode cX11_isSwept 227 = .ok (.aload_n 0, 1) := by decide +kernel
theorem dX11_isSwept_228 : decode cX11_isSwept 228 = .ok (.aload_n 0, 1) := by decide +kernel
theorem dX11_isSwept_229 : decode cX11_isSwept 229 = .ok (.getfield 86, 3) := by decide +kernel
theorem dX11_isSwept_232 : decode cX11_isSwept 232 = .ok (.iload 4, 2) := by decide +kernel
theorem dX11_isSwept_234 : decode cX11_isSwept 234 = .ok (.iaload, 1) := by decide +kernel
theorem dX11_isSwept_235 : decode cX11_isSwept 235 = .ok (.aload_n 0, 1) := by decide +kernel
theorem dX11_isSwept_236 : decode cX11_isSwept 236 = .ok (.getfield 89, 3) := by decide +kernel
theorem dX11_isSwept_239 : decode cX11_isSwept 239 = .ok (.iload 4, 2) := by decide +kernel
theorem dX11_isSwept_241 : decode cX11_isSwept 241 = .ok (.iaload, 1) := by decide +kernel
theorem dX11_isSwept_242 : decode cX11_isSwept 242 = .ok (.aload_n 0, 1) := by decide +kernel
theorem dX11_isSwept_243 : decode cX11_isSwept 243 = .ok (.getfield 77, 3) := by decide +kernel
