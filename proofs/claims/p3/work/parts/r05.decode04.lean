section
theorem dX11_isWithin_15 : decode cX11_isWithin 15 = .ok (.i2l, 1) := by decide +kernel
theorem dX11_isWithin_16 : decode cX11_isWithin 16 = .ok (.iload_n 1, 1) := by decide +kernel
theorem dX11_isWithin_17 : decode cX11_isWithin 17 = .ok (.i2l, 1) := by decide +kernel
theorem dX11_isWithin_18 : decode cX11_isWithin 18 = .ok (.iload_n 2, 1) := by decide +kernel
theorem dX11_isWithin_19 : decode cX11_isWithin 19 = .ok (.i2l, 1) := by decide +kernel
theorem dX11_isWithin_20 : decode cX11_isWithin 20 = .ok (.invokestatic 140, 3) := by decide +kernel
theorem dX11_isWithin_23 : decode cX11_isWithin 23 = .ok (.invokestatic 153, 3) := by decide +kernel
theorem dX11_isWithin_26 : decode cX11_isWithin 26 = .ok (.istore_n 3, 1) := by decide +kernel
theorem dX11_isWithin_27 : decode cX11_isWithin 27 = .ok (.aload_n 0, 1) := by decide +kernel
theorem dX11_isWithin_28 : decode cX11_isWithin 28 = .ok (.iconst 2, 1) := by decide +kernel
theorem dX11_isWithin_29 : decode cX11_isWithin 29 = .ok (.iaload, 1) := by decide +kernel
theorem dX11_isWithin_30 : decode cX11_isWithin 30 = .ok (.i2l, 1) := by decide +kernel
theorem dX11_isWithin_31 : decode cX11_isWithin 31 = .ok (.aload_n 0, 1) := by decide +kernel
theorem dX11_isWithin_32 : decode cX11_isWithin 32 = .ok (.iconst 3, 1) := by decide +kernel
theorem dX11_isWithin_33 : decode cX11_isWithin 33 = .ok (.iaload, 1) := by decide +kernel
theorem dX11_isWithin_34 : decode cX11_isWithin 34 = .ok (.i2l, 1) := by decide +kernel
theorem dX11_isWithin_35 : decode cX11_isWithin 35 = .ok (.aload_n 0, 1) := by decide +kernel
theorem dX11_isWithin_36 : decode cX11_isWithin 36 = .ok (.iconst 4, 1) := by decide +kernel
theorem dX11_isWithin_37 : decode cX11_isWithin 37 = .ok (.iaload, 1) := by decide +kernel
theorem dX11_isWithin_38 : decode cX11_isWithin 38 = .ok (.i2l, 1) := by decide +kernel
theorem dX11_isWithin_39 : decode cX11_isWithin 39 = .ok (.aload_n 0, 1) := by decide +kernel
theorem dX11_isWithin_40 : decode cX11_isWithin 40 = .ok (.iconst 5, 1) := by decide +kernel
theorem dX11_isWithin_41 : decode cX11_isWithin 41 = .ok (.iaload, 1) := by decide +kernel
theorem dX11_isWithin_42 : decode cX11_isWithin 42 = .ok (.i2l, 1) := by decide +kernel
theorem dX11_isWithin_43 : decode cX11_isWithin 43 = .ok (.iload_n 1, 1) := by decide +kernel
theorem dX11_isWithin_44 : decode cX11_isWithin 44 = .ok (.i2l, 1) := by decide +kernel
theorem dX11_isWithin_45 : decode cX11_isWithin 45 = .ok (.iload_n 2, 1) := by decide +kernel
theorem dX11_isWithin_46 : decode cX11_isWithin 46 = .ok (.i2l, 1) := by decide +kernel
theorem dX11_isWithin_47 : decode cX11_isWithin 47 = .ok (.invokestatic 140, 3) := by decide +kernel
theorem dX11_isWithin_50 : decode cX11_isWithin 50 = .ok (.invokestatic 153, 3) := by decide +kernel
theorem dX11_isWithin_53 : decode cX11_isWithin 53 = .ok (.istore 4, 2) := by decide +kernel
theorem dX11_isWithin_55 : decode cX11_isWithin 55 = .ok (.aload_n 0, 1) := by decide +kernel
theorem dX11_isWithin_56 : decode cX11_isWithin 56 = .ok (.iconst 4, 1) := by decide +kernel
theorem dX11_isWithin_57 : decode cX11_isWithin 57 = .ok (.iaload, 1) := by decide +kernel
theorem dX11_isWithin_58 : decode cX11_isWithin 58 = .ok (.i2l, 1) := by decide +kernel
theorem dX11_isWithin_59 : decode cX11_isWithin 59 = .ok (.aload_n 0, 1) := by decide +kernel
theorem dX11_isWithin_60 : decode cX11_isWithin 60 = .ok (.iconst 5, 1) := by decide +kernel
theorem dX11_isWithin_61 : decode cX11_isWithin 61 = .ok (.iaload, 1) := by decide +kernel
theorem dX11_isWithin_62 : decode cX11_isWithin 62 = .ok (.i2l, 1) := by decide +kernel
theorem dX11_isWithin_63 : decode cX11_isWithin 63 = .ok (.aload_n 0, 1) := by decide +kernel
theorem dX11_isWithin_64 : decode cX11_isWithin 64 = .ok (.iconst 0, 1) := by decide +kernel
theorem dX11_isWithin_65 : decode cX11_isWithin 65 = .ok (.iaload, 1) := by decide +kernel
theorem dX11_isWithin_66 : decode cX11_isWithin 66 = .ok (.i2l, 1) := by decide +kernel
theorem dX11_isWithin_67 : decode cX11_isWithin 67 = .ok (.aload_n 0, 1) := by decide +kernel
theorem dX11_isWithin_68 : decode cX11_isWithin 68 = .ok (.iconst 1, 1) := by decide +kernel
theorem dX11_isWithin_69 : decode cX11_isWithin 69 = .ok (.iaload, 1) := by decide +kernel
theorem dX11_isWithin_70 : decode cX11_isWithin 70 = .ok (.i2l, 1) := by decide +kernel
theorem dX11_isWithin_71 : decode cX11_isWithin 71 = .ok (.iload_n 1, 1) := by decide +kernel
theorem dX11_isWithin_72 : decode cX11_isWithin 72 = .ok (.i2l, 1) := by decide +kernel
theorem dX11_isWithin_73 : decode cX11_isWithin 73 = .ok (.iload_n 2, 1) := by decide +kernel
theorem dX11_isWithin_74 : decode cX11_isWithin 74 = .ok (.i2l, 1) := by decide +kernel
theorem dX11_isWithin_75 : decode cX11_isWithin 75 = .ok (.invokestatic 140, 3) := by decide +kernel
theorem dX11_isWithin_78 : decode cX11_isWithin 78 = .ok (.invokestatic 153, 3) := by decide +kernel
theorem dX11_isWithin_81 : decode cX11_isWithin 81 = .ok (.istore 5, 2) := by decide +kernel
theorem dX11_isWithin_83 : decode cX11_isWithin 83 = .ok (.aload_n 0, 1) := by decide +kernel
theorem dX11_isWithin_84 : decode cX11_isWithin 84 = .ok (.iconst 0, 1) := by decide +kernel
theorem dX11_isWithin_85 : decode cX11_isWithin 85 = .ok (.iaload, 1) := by decide +kernel
theorem dX11_isWithin_86 : decode cX11_isWithin 86 = .ok (.i2l, 1) := by decide +kernel
theorem dX11_isWithin_87 : decode cX11_isWithin 87 = .ok (.aload_n 0, 1) := by decide +kernel
theorem dX11_isWithin_88 : decode cX11_isWithin 88 = .ok (.iconst 1, 1) := by decide +kernel
theorem dX11_isWithin_89 : decode cX11_isWithin 89 = .ok (.iaload, 1) := by decide +kernel
theorem dX11_isWithin_90 : decode cX11_isWithin 90 = .ok (.i2l, 1) := by decide +kernel
theorem dX11_isWithin_91 : decode cX11_isWithin 91 = .ok (.aload_n 0, 1) := by decide +kernel
theorem dX11_isWithin_92 : decode cX11_isWithin 92 = .ok (.iconst 2, 1) := by decide +kernel
theorem dX11_isWithin_93 : decode cX11_isWithin 93 = .ok (.iaload, 1) := by decide +kernel
theorem dX11_isWithin_94 : decode cX11_isWithin 94 = .ok (.i2l, 1) := by decide +kernel
theorem dX11_isWithin_95 : decode cX11_isWithin 95 = .ok (.aload_n 0, 1) := by decide +kernel
theorem dX11_isWithin_96 : decode cX11_isWithin 96 = .ok (.iconst 3, 1) := by decide +kernel
theorem dX11_isWithin_97 : decode cX11_isWithin 97 = .ok (.iaload, 1) := by decide +kernel
theorem dX11_isWithin_98 : decode cX11_isWithin 98 = .ok (.i2l, 1) := by decide +kernel
theorem dX11_isWithin_99 : decode cX11_isWithin 99 = .ok (.aload_n 0, 1) := by decide +kernel
theorem dX11_isWithin_100 : decode cX11_isWithin 100 = .ok (.iconst 4, 1) := by decide +kernel
theorem dX11_isWithin_101 : decode cX11_isWithin 101 = .ok (.iaload, 1) := by decide +kernel
theorem dX11_isWithin_102 : decode cX11_isWithin 102 = .ok (.i2l, 1) := by decide +kernel
theorem dX11_isWithin_103 : decode cX11_isWithin 103 = .ok (.aload_n 0, 1) := by decide +kernel
theorem dX11_isWithin_104 : decode cX11_isWithin 104 = .ok (.iconst 5, 1) := by decide +kernel
theorem dX11_isWithin_105 : decode cX11_isWithin 105 = .ok (.iaload, 1) := by decide +kernel
theorem dX11_isWithin_106 : decode cX11_isWithin 106 = .ok (.i2l, 1) := by decide +kernel
theorem dX11_isWithin_107 : decode cX11_isWithin 107 = .ok (.invokestatic 140, 3) := by decide +kernel
theorem dX11_isWithin_110 : decode cX11_isWithin 110 = .ok (.lconst 0, 1) := by decide +kernel
theorem dX11_isWithin_111 : decode cX11_isWithin 111 = .ok (.lcmp, 1) := by decide +kernel
theorem dX11_isWithin_112 : decode cX11_isWithin 112 = .ok (.ifCond .ne 69, 3) := by decide +kernel
theorem dX11_isWithin_115 : decode cX11_isWithin 115 = .ok (.aload_n 0, 1) := by decide +kernel
theorem dX11_isWithin_116 : decode cX11_isWithin 116 = .ok (.iconst 0, 1) := by decide +kernel
theorem dX11_isWithin_117 : decode cX11_isWithin 117 = .ok (.iaload, 1) := by decide +kernel
theorem dX11_isWithin_118 : decode cX11_isWithin 118 = .ok (.aload_n 0, 1) := by decide +kernel
theorem dX11_isWithin_119 : decode cX11_isWithin 119 = .ok (.iconst 1, 1) := by decide +kernel
theorem dX11_isWithin_120 : decode cX11_isWithin 120 = .ok (.iaload, 1) := by decide +kernel
theorem dX11_isWithin_121 : decode cX11_isWithin 121 = .ok (.aload_n 0, 1) := by decide +kernel
theorem dX11_isWithin_122 : decode cX11_isWithin 122 = .ok (.iconst 2, 1) := by decide +kernel
theorem dX11_isWithin_123 : decode cX11_isWithin 123 = .ok (.iaload, 1) := by decide +kernel
theorem dX11_isWithin_124 : decode cX11_isWithin 124 = .ok (.aload_n 0, 1) := by decide +kernel
theorem dX11_isWithin_125 : decode cX11_isWithin 125 = .ok (.iconst 3, 1) := by decide +kernel
theorem dX11_isWithin_126 : decode cX11_isWithin 126 = .ok (.iaload, 1) := by decide +kernel
theorem dX11_isWithin_127 : decode cX11_isWithin 127 = .ok (.iload_n 1, 1) := by decide +kernel
theorem dX11_isWithin_128 : decode cX11_isWithin 128 = .ok (.iload_n 2, 1) := by decide +kernel
theorem dX11_isWithin_129 : decode cX11_isWithin 129 = .ok (.invokestatic 157, 3) := by decide +kernel
theorem dX11_isWithin_132 : decode cX11_isWithin 132 = .ok (.ifCond .ne 43, 3) := by decide +kernel
theorem dX11_isWithin_135 : decode cX11_isWithin 135 = .ok (.aload_n 0, 1) := by decide +kernel
theorem dX11_isWithin_136 : decode cX11_isWithin 136 = .ok (.iconst 2, 1) := by decide +kernel
theorem dX11_isWithin_137 : decode cX11_isWithin 137 = .ok (.iaload, 1) := by decide +kernel
theorem dX11_isWithin_138 : decode cX11_isWithin 138 = .ok (.aload_n 0, 1) := by decide +kernel
theorem dX11_isWithin_139 : decode cX11_isWithin 139 = .ok (.iconst 3, 1) := by decide +kernel
theorem dX11_isWithin_140 : decode cX11_isWithin 140 = .ok (.iaload, 1) := by decide +kernel
theorem dX11_isWithin_141 : decode cX11_isWithin 141 = .ok (.aload_n 0, 1) := by decide +kernel
theorem dX11_isWithin_142 : decode cX11_isWithin 142 = .ok (.iconst 4, 1) := by decide +kernel
theorem dX11_isWithin_143 : decode cX11_isWithin 143 = .ok (.iaload, 1) := by decide +kernel
theorem dX11_isWithin_144 : decode cX11_isWithin 144 = .ok (.aload_n 0, 1) := by decide +kernel
theorem dX11_isWithin_145 : decode cX11_isWithin 145 = .ok (.iconst 5, 1) := by decide +kernel
theorem dX11_isWithin_146 : decode cX11_isWithin 146 = .ok (.iaload, 1) := by decide +kernel
theorem dX11_isWithin_147 : decode cX11_isWithin 147 = .ok (.iload_n 1, 1) := by decide +kernel
theorem dX11_isWithin_148 : decode cX11_isWithin 148 = .ok (.iload_n 2, 1) := by decide +kernel
theorem dX11_isWithin_149 : decode cX11_isWithin 149 = .ok (.invokestatic 157, 3) := by decide +kernel
theorem dX11_isWithin_152 : decode cX11_isWithin 152 = .ok (.ifCond .ne 23, 3) := by decide +kernel
theorem dX11_isWithin_155 : decode cX11_isWithin 155 = .ok (.aload_n 0, 1) := by decide +kernel
theorem dX11_isWithin_156 : decode cX11_isWithin 156 = .ok (.iconst 4, 1) := by decide +kernel
theorem dX11_isWithin_157 : decode cX11_isWithin 157 = .ok (.iaload, 1) := by decide +kernel
theorem dX11_isWithin_158 : decode cX11_isWithin 158 = .ok (.aload_n 0, 1) := by decide +kernel
theorem dX11_isWithin_159 : decode cX11_isWithin 159 = .ok (.iconst 5, 1) := by decide +kernel
theorem dX11_isWithin_160 : decode cX11_isWithin 160 = .ok (.iaload, 1) := by decide +kernel
theorem dX11_isWithin_161 : decode cX11_isWithin 161 = .ok (.aload_n 0, 1) := by decide +kernel
theorem dX11_isWithin_162 : decode cX11_isWithin 162 = .ok (.iconst 0, 1) := by decide +kernel
theorem dX11_isWithin_163 : decode cX11_isWithin 163 = .ok (.iaload, 1) := by decide +kernel
theorem dX11_isWithin_164 : decode cX11_isWithin 164 = .ok (.aload_n 0, 1) := by decide +kernel
theorem dX11_isWithin_165 : decode cX11_isWithin 165 = .ok (.iconst 1, 1) := by decide +kernel
theorem dX11_isWithin_166 : decode cX11_isWithin 166 = .ok (.iaload, 1) := by decide +kernel
theorem dX11_isWithin_167 : decode cX11_isWithin 167 = .ok (.iload_n 1, 1) := by decide +kernel
theorem dX11_isWithin_168 : decode cX11_isWithin 168 = .ok (.iload_n 2, 1) := by decide +kernel
theorem dX11_isWithin_169 : decode cX11_isWithin 169 = .ok (.invokestatic 157, 3) := by decide +kernel
theorem dX11_isWithin_172 : decode cX11_isWithin 172 = .ok (.ifCond .eq 7, 3) := by decide +kernel
theorem dX11_isWithin_175 : decode cX11_isWithin 175 = .ok (.iconst 1, 1) := by decide +kernel
theorem dX11_isWithin_176 : decode cX11_isWithin 176 = .ok (.goto 4, 3) := by decide +kernel
theorem dX11_isWithin_179 : decode cX11_isWithin 179 = .ok (.iconst 0, 1) := by decide +kernel
theorem dX11_isWithin_180 : decode cX11_isWithin 180 = .ok (.ireturn, 1) := by decide +kernel
theorem dX11_isWithin_181 : decode cX11_isWithin 181 = .ok (.iload_n 3, 1) := by decide +kernel
theorem dX11_isWithin_182 : decode cX11_isWithin 182 = .ok (.ifCond .lt 13, 3) := by decide +kernel
theorem dX11_isWithin_185 : decode cX11_isWithin 185 = .ok (.iload 4, 2) := by decide +kernel
theorem dX11_isWithin_187 : decode cX11_isWithin 187 = .ok (.ifCond .lt 8, 3) := by decide +kernel
theorem dX11_isWithin_190 : decode cX11_isWithin 190 = .ok (.iload 5, 2) := by decide +kernel
theorem dX11_isWithin_192 : decode cX11_isWithin 192 = .ok (.ifCond .ge 17, 3) := by decide +kernel
theorem dX11_isWithin_195 : decode cX11_isWithin 195 = .ok (.iload_n 3, 1) := by decide +kernel
theorem dX11_isWithin_196 : decode cX11_isWithin 196 = .ok (.ifCond .gt 17, 3) := by decide +kernel
theorem dX11_isWithin_199 : decode cX11_isWithin 199 = .ok (.iload 4, 2) := by decide +kernel
theorem dX11_isWithin_201 : decode cX11_isWithin 201 = .ok (.ifCond .gt 12, 3) := by decide +kernel
theorem dX11_isWithin_204 : decode cX11_isWithin 204 = .ok (.iload 5, 2) := by decide +kernel
theorem dX11_isWithin_206 : decode cX11_isWithin 206 = .ok (.ifCond .gt 7, 3) := by decide +kernel
theorem dX11_isWithin_209 : decode cX11_isWithin 209 = .ok (.iconst 1, 1) := by decide +kernel
theorem dX11_isWithin_210 : decode cX11_isWithin 210 = .ok (.goto 4, 3) := by decide +kernel
theorem dX11_isWithin_213 : decode cX11_isWithin 213 = .ok (.iconst 0, 1) := by decide +kernel
theorem dX11_isWithin_214 : decode cX11_isWithin 214 = .ok (.ireturn, 1) := by decide +kernel
theorem dX11_edgesOf_0 : decode cX11_edgesOf 0 = .ok (.aload_n 0, 1) := by decide +kernel
theorem dX11_edgesOf_1 : decode cX11_edgesOf 1 = .ok (.getfield 7, 3) := by decide +kernel
theorem dX11_edgesOf_4 : decode cX11_edgesOf 4 = .ok (.iload_n 1, 1) := by decide +kernel
theorem dX11_edgesOf_5 : decode cX11_edgesOf 5 = .ok (.iaload, 1) := by decide +kernel
theorem dX11_edgesOf_6 : decode cX11_edgesOf 6 = .ok (.ifCond .ne 7, 3) := by decide +kernel
theorem dX11_edgesOf_9 : decode cX11_edgesOf 9 = .ok (.iconst 1, 1) := by decide +kernel
theorem dX11_edgesOf_10 : decode cX11_edgesOf 10 = .ok (.goto 28, 3) := by decide +kernel
theorem dX11_edgesOf_13 : decode cX11_edgesOf 13 = .ok (.aload_n 0, 1) := by decide +kernel
theorem dX11_edgesOf_14 : decode cX11_edgesOf 14 = .ok (.iload_n 1, 1) := by decide +kernel
theorem dX11_edgesOf_15 : decode cX11_edgesOf 15 = .ok (.invokevirtual 161, 3) := by decide +kernel
theorem dX11_edgesOf_18 : decode cX11_edgesOf 18 = .ok (.ifCond .eq 12, 3) := by decide +kernel
theorem dX11_edgesOf_21 : decode cX11_edgesOf 21 = .ok (.aload_n 0, 1) := by decide +kernel
theorem dX11_edgesOf_22 : decode cX11_edgesOf 22 = .ok (.getfield 41, 3) := by decide +kernel
theorem dX11_edgesOf_25 : decode cX11_edgesOf 25 = .ok (.iload_n 1, 1) := by decide +kernel
theorem dX11_edgesOf_26 : decode cX11_edgesOf 26 = .ok (.iaload, 1) := by decide +kernel
theorem dX11_edgesOf_27 : decode cX11_edgesOf 27 = .ok (.goto 11, 3) := by decide +kernel
theorem dX11_edgesOf_30 : decode cX11_edgesOf 30 = .ok (.aload_n 0, 1) := by decide +kernel
theorem dX11_edgesOf_31 : decode cX11_edgesOf 31 = .ok (.getfield 41, 3) := by decide +kernel
theorem dX11_edgesOf_34 : decode cX11_edgesOf 34 = .ok (.iload_n 1, 1) := by decide +kernel
theorem dX11_edgesOf_35 : decode cX11_edgesOf 35 = .ok (.iaload, 1) := by decide +kernel
theorem dX11_edgesOf_36 : decode cX11_edgesOf 36 = .ok (.iconst 1, 1) := by decide +kernel
theorem dX11_edgesOf_37 : decode cX11_edgesOf 37 = .ok (.isub, 1) := by decide +kernel
theorem dX11_edgesOf_38 : decode cX11_edgesOf 38 = .ok (.ireturn, 1) := by decide +kernel
theorem dX11_edge_0 : decode cX11_edge 0 = .ok (.bipush 40, 2) := by decide +kernel
theorem dX11_edge_2 : decode cX11_edge 2 = .ok (.iload_n 1, 1) := by decide +kernel
theorem dX11_edge_3 : decode cX11_edge 3 = .ok (.imul, 1) := by decide +kernel
theorem dX11_edge_4 : decode cX11_edge 4 = .ok (.iload_n 2, 1) := by decide +kernel
theorem dX11_edge_5 : decode cX11_edge 5 = .ok (.iadd, 1) := by decide +kernel
theorem dX11_edge_6 : decode cX11_edge 6 = .ok (.istore 4, 2) := by decide +kernel
theorem dX11_edge_8 : decode cX11_edge 8 = .ok (.bipush 40, 2) := by decide +kernel
theorem dX11_edge_10 : decode cX11_edge 10 = .ok (.iload_n 1, 1) := by decide +kernel
theorem dX11_edge_11 : decode cX11_edge 11 = .ok (.imul, 1) := by decide +kernel
theorem dX11_edge_12 : decode cX11_edge 12 = .ok (.iload_n 2, 1) := by decide +kernel
theorem dX11_edge_13 : decode cX11_edge 13 = .ok (.iconst 1, 1) := by decide +kernel
theorem dX11_edge_14 : decode cX11_edge 14 = .ok (.iadd, 1) := by decide +kernel
theorem dX11_edge_15 : decode cX11_edge 15 = .ok (.aload_n 0, 1) := by decide +kernel
theorem dX11_edge_16 : decode cX11_edge 16 = .ok (.getfield 41, 3) := by decide +kernel
theorem dX11_edge_19 : decode cX11_edge 19 = .ok (.iload_n 1, 1) := by decide +kernel
theorem dX11_edge_20 : decode cX11_edge 20 = .ok (.iaload, 1) := by decide +kernel
theorem dX11_edge_21 : decode cX11_edge 21 = .ok (.if_icmp .ne 7, 3) := by decide +kernel
theorem dX11_edge_24 : decode cX11_edge 24 = .ok (.iconst 0, 1) := by decide +kernel
theorem dX11_edge_25 : decode cX11_edge 25 = .ok (.goto 6, 3) := by decide +kernel
theorem dX11_edge_28 : decode cX11_edge 28 = .ok (.iload_n 2, 1) := by decide +kernel
theorem dX11_edge_29 : decode cX11_edge 29 = .ok (.iconst 1, 1) := by decide +kernel
theorem dX11_edge_30 : decode cX11_edge 30 = .ok (.iadd, 1) := by decide +kernel
theorem dX11_edge_31 : decode cX11_edge 31 = .ok (.iadd, 1) := by decide +kernel
theorem dX11_edge_32 : decode cX11_edge 32 = .ok (.istore 5, 2) := by decide +kernel
theorem dX11_edge_34 : decode cX11_edge 34 = .ok (.aload_n 0, 1) := by decide +kernel
theorem dX11_edge_35 : decode cX11_edge 35 = .ok (.getfield 83, 3) := by decide +kernel
theorem dX11_edge_38 : decode cX11_edge 38 = .ok (.iload_n 3, 1) := by decide +kernel
theorem dX11_edge_39 : decode cX11_edge 39 = .ok (.aload_n 0, 1) := by decide +kernel
theorem dX11_edge_40 : decode cX11_edge 40 = .ok (.getfield 44, 3) := by decide +kernel
theorem dX11_edge_43 : decode cX11_edge 43 = .ok (.iload 4, 2) := by decide +kernel
theorem dX11_edge_45 : decode cX11_edge 45 = .ok (.iaload, 1) := by decide +kernel
theorem dX11_edge_46 : decode cX11_edge 46 = .ok (.iastore, 1) := by decide +kernel
theorem dX11_edge_47 : decode cX11_edge 47 = .ok (.aload_n 0, 1) := by decide +kernel
theorem dX11_edge_48 : decode cX11_edge 48 = .ok (.getfield 83, 3) := by decide +kernel
theorem dX11_edge_51 : decode cX11_edge 51 = .ok (.iload_n 3, 1) := by decide +kernel
theorem dX11_edge_52 : decode cX11_edge 52 = .ok (.iconst 1, 1) := by decide +kernel
theorem dX11_edge_53 : decode cX11_edge 53 = .ok (.iadd, 1) := by decide +kernel
theorem dX11_edge_54 : decode cX11_edge 54 = .ok (.aload_n 0, 1) := by decide +kernel
theorem dX11_edge_55 : decode cX11_edge 55 = .ok (.getfield 47, 3) := by decide +kernel
theorem dX11_edge_58 : decode cX11_edge 58 = .ok (.iload 4, 2) := by decide +kernel
theorem dX11_edge_60 : decode cX11_edge 60 = .ok (.iaload, 1) := by decide +kernel
theorem dX11_edge_61 : decode cX11_edge 61 = .ok (.iastore, 1) := by decide +kernel
theorem dX11_edge_62 : decode cX11_edge 62 = .ok (.aload_n 0, 1) := by decide +kernel
theorem dX11_edge_63 : decode cX11_edge 63 = .ok (.getfield 83, 3) := by decide +kernel
theorem dX11_edge_66 : decode cX11_edge 66 = .ok (.iload_n 3, 1) := by decide +kernel
theorem dX11_edge_67 : decode cX11_edge 67 = .ok (.iconst 2, 1) := by decide +kernel
theorem dX11_edge_68 : decode cX11_edge 68 = .ok (.iadd, 1) := by decide +kernel
theorem dX11_edge_69 : decode cX11_edge 69 = .ok (.aload_n 0, 1) := by decide +kernel
theorem dX11_edge_70 : decode cX11_edge 70 = .ok (.getfield 44, 3) := by decide +kernel
theorem dX11_edge_73 : decode cX11_edge 73 = .ok (.iload 5, 2) := by decide +kernel
theorem dX11_edge_75 : decode cX11_edge 75 = .ok (.iaload, 1) := by decide +kernel
theorem dX11_edge_76 : decode cX11_edge 76 = .ok (.iastore, 1) := by decide +kernel
theorem dX11_edge_77 : decode cX11_edge 77 = .ok (.aload_n 0, 1) := by decide +kernel
theorem dX11_edge_78 : decode cX11_edge 78 = .ok (.getfield 83, 3) := by decide +kernel
theorem dX11_edge_81 : decode cX11_edge 81 = .ok (.iload_n 3, 1) := by decide +kernel
theorem dX11_edge_82 : decode cX11_edge 82 = .ok (.iconst 3, 1) := by decide +kernel
theorem dX11_edge_83 : decode cX11_edge 83 = .ok (.iadd, 1) := by decide +kernel
theorem dX11_edge_84 : decode cX11_edge 84 = .ok (.aload_n 0, 1) := by decide +kernel
theorem dX11_edge_85 : decode cX11_edge 85 = .ok (.getfield 47, 3) := by decide +kernel
theorem dX11_edge_88 : decode cX11_edge 88 = .ok (.iload 5, 2) := by decide +kernel
theorem dX11_edge_90 : decode cX11_edge 90 = .ok (.iaload, 1) := by decide +kernel
theorem dX11_edge_91 : decode cX11_edge 91 = .ok (.iastore, 1) := by decide +kernel
theorem dX11_edge_92 : decode cX11_edge 92 = .ok (.return_, 1) := by decide +kernel
theorem dX11_isMet_0 : decode cX11_isMet 0 = .ok (.iconst 0, 1) := by decide +kernel
theorem dX11_isMet_1 : decode cX11_isMet 1 = .ok (.istore_n 3, 1) := by decide +kernel
theorem dX11_isMet_2 : decode cX11_isMet 2 = .ok (.iload_n 3, 1) := by decide +kernel
theorem dX11_isMet_3 : decode cX11_isMet 3 = .ok (.aload_n 0, 1) := by decide +kernel
theorem dX11_isMet_4 : decode cX11_isMet 4 = .ok (.iload_n 1, 1) := by decide +kernel
theorem dX11_isMet_5 : decode cX11_isMet 5 = .ok (.invokevirtual 164, 3) := by decide +kernel
theorem dX11_isMet_8 : decode cX11_isMet 8 = .ok (.if_icmp .ge 55, 3) := by decide +kernel
theorem dX11_isMet_11 : decode cX11_isMet 11 = .ok (.aload_n 0, 1) := by decide +kernel
theorem dX11_isMet_12 : decode cX11_isMet 12 = .ok (.iload_n 1, 1) := by decide +kernel
theorem dX11_isMet_13 : decode cX11_isMet 13 = .ok (.iload_n 3, 1) := by decide +kernel
theorem dX11_isMet_14 : decode cX11_isMet 14 = .ok (.iconst 0, 1) := by decide +kernel
theorem dX11_isMet_15 : decode cX11_isMet 15 = .ok (.invokevirtual 167, 3) := by decide +kernel
theorem dX11_isMet_18 : decode cX11_isMet 18 = .ok (.iconst 0, 1) := by decide +kernel
theorem dX11_isMet_19 : decode cX11_isMet 19 = .ok (.istore 4, 2) := by decide +kernel
theorem dX11_isMet_21 : decode cX11_isMet 21 = .ok (.iload 4, 2) := by decide +kernel
theorem dX11_isMet_23 : decode cX11_isMet 23 = .ok (.aload_n 0, 1) := by decide +kernel
theorem dX11_isMet_24 : decode cX11_isMet 24 = .ok (.iload_n 2, 1) := by decide +kernel
theorem dX11_isMet_25 : decode cX11_isMet 25 = .ok (.invokevirtual 164, 3) := by decide +kernel
theorem dX11_isMet_28 : decode cX11_isMet 28 = .ok (.if_icmp .ge 29, 3) := by decide +kernel
theorem dX11_isMet_31 : decode cX11_isMet 31 = .ok (.aload_n 0, 1) := by decide +kernel
theorem dX11_isMet_32 : decode cX11_isMet 32 = .ok (.iload_n 2, 1) := by decide +kernel
theorem dX11_isMet_33 : decode cX11_isMet 33 = .ok (.iload 4, 2) := by decide +kernel
theorem dX11_isMet_35 : decode cX11_isMet 35 = .ok (.iconst 4, 1) := by decide +kernel
theorem dX11_isMet_36 : decode cX11_isMet 36 = .ok (.invokevirtual 167, 3) := by decide +kernel
theorem dX11_isMet_39 : decode cX11_isMet 39 = .ok (.aload_n 0, 1) := by decide +kernel
theorem dX11_isMet_40 : decode cX11_isMet 40 = .ok (.getfield 83, 3) := by decide +kernel
theorem dX11_isMet_43 : decode cX11_isMet 43 = .ok (.invokestatic 171, 3) := by decide +kernel
theorem dX11_isMet_46 : decode cX11_isMet 46 = .ok (.ifCond .eq 5, 3) := by decide +kernel
theorem dX11_isMet_49 : decode cX11_isMet 49 = .ok (.iconst 1, 1) := by decide +kernel
theorem dX11_isMet_50 : decode cX11_isMet 50 = .ok (.ireturn, 1) := by decide +kernel
theorem dX11_isMet_51 : decode cX11_isMet 51 = .ok (.iinc 4 1, 3) := by decide +kernel
theorem dX11_isMet_54 : decode cX11_isMet 54 = .ok (.goto (-33), 3) := by decide +kernel
theorem dX11_isMet_57 : decode cX11_isMet 57 = .ok (.iinc 3 1, 3) := by decide +kernel
theorem dX11_isMet_60 : decode cX11_isMet 60 = .ok (.goto (-58), 3) := by decide +kernel
theorem dX11_isMet_63 : decode cX11_isMet 63 = .ok (.iconst 0, 1) := by decide +kernel
theorem dX11_isMet_64 : decode cX11_isMet 64 = .ok (.ireturn, 1) := by decide +kernel
theorem dX11_isOnSet_0 : decode cX11_isOnSet 0 = .ok (.iconst 0, 1) := by decide +kernel
theorem dX11_isOnSet_1 : decode cX11_isOnSet 1 = .ok (.istore 4, 2) := by decide +kernel
theorem dX11_isOnSet_3 : decode cX11_isOnSet 3 = .ok (.iload 4, 2) := by decide +kernel
theorem dX11_isOnSet_5 : decode cX11_isOnSet 5 = .ok (.aload_n 0, 1) := by decide +kernel
theorem dX11_isOnSet_6 : decode cX11_isOnSet 6 = .ok (.iload_n 1, 1) := by decide +kernel
theorem dX11_isOnSet_7 : decode cX11_isOnSet 7 = .ok (.invokevirtual 164, 3) := by decide +kernel
theorem dX11_isOnSet_10 : decode cX11_isOnSet 10 = .ok (.if_icmp .ge 51, 3) := by decide +kernel
theorem dX11_isOnSet_13 : decode cX11_isOnSet 13 = .ok (.aload_n 0, 1) := by decide +kernel
theorem dX11_isOnSet_14 : decode cX11_isOnSet 14 = .ok (.iload_n 1, 1) := by decide +kernel
theorem dX11_isOnSet_15 : decode cX11_isOnSet 15 = .ok (.iload 4, 2) := by decide +kernel
theorem dX11_isOnSet_17 : decode cX11_isOnSet 17 = .ok (.iconst 0, 1) := by decide +kernel
theorem dX11_isOnSet_18 : decode cX11_isOnSet 18 = .ok (.invokevirtual 167, 3) := by decide +kernel
theorem dX11_isOnSet_21 : decode cX11_isOnSet 21 = .ok (.aload_n 0, 1) := by decide +kernel
theorem dX11_isOnSet_22 : decode cX11_isOnSet 22 = .ok (.getfield 83, 3) := by decide +kernel
theorem dX11_isOnSet_25 : decode cX11_isOnSet 25 = .ok (.iconst 0, 1) := by decide +kernel
theorem dX11_isOnSet_26 : decode cX11_isOnSet 26 = .ok (.iaload, 1) := by decide +kernel
theorem dX11_isOnSet_27 : decode cX11_isOnSet 27 = .ok (.aload_n 0, 1) := by decide +kernel
theorem dX11_isOnSet_28 : decode cX11_isOnSet 28 = .ok (.getfield 83, 3) := by decide +kernel
theorem dX11_isOnSet_31 : decode cX11_isOnSet 31 = .ok (.iconst 1, 1) := by decide +kernel
theorem dX11_isOnSet_32 : decode cX11_isOnSet 32 = .ok (.iaload, 1) := by decide +kernel
theorem dX11_isOnSet_33 : decode cX11_isOnSet 33 = .ok (.aload_n 0, 1) := by decide +kernel
theorem dX11_isOnSet_34 : decode cX11_isOnSet 34 = .ok (.getfield 83, 3) := by decide +kernel
theorem dX11_isOnSet_37 : decode cX11_isOnSet 37 = .ok (.iconst 2, 1) := by decide +kernel
theorem dX11_isOnSet_38 : decode cX11_isOnSet 38 = .ok (.iaload, 1) := by decide +kernel
theorem dX11_isOnSet_39 : decode cX11_isOnSet 39 = .ok (.aload_n 0, 1) := by decide +kernel
theorem dX11_isOnSet_40 : decode cX11_isOnSet 40 = .ok (.getfield 83, 3) := by decide +kernel
theorem dX11_isOnSet_43 : decode cX11_isOnSet 43 = .ok (.iconst 3, 1) := by decide +kernel
theorem dX11_isOnSet_44 : decode cX11_isOnSet 44 = .ok (.iaload, 1) := by decide +kernel
theorem dX11_isOnSet_45 : decode cX11_isOnSet 45 = .ok (.iload_n 2, 1) := by decide +kernel
theorem dX11_isOnSet_46 : decode cX11_isOnSet 46 = .ok (.iload_n 3, 1) := by decide +kernel
theorem dX11_isOnSet_47 : decode cX11_isOnSet 47 = .ok (.invokestatic 157, 3) := by decide +kernel
theorem dX11_isOnSet_50 : decode cX11_isOnSet 50 = .ok (.ifCond .eq 5, 3) := by decide +kernel
theorem dX11_isOnSet_53 : decode cX11_isOnSet 53 = .ok (.iconst 1, 1) := by decide +kernel
theorem dX11_isOnSet_54 : decode cX11_isOnSet 54 = .ok (.ireturn, 1) := by decide +kernel
theorem dX11_isOnSet_55 : decode cX11_isOnSet 55 = .ok (.iinc 4 1, 3) := by decide +kernel
theorem dX11_isOnSet_58 : decode cX11_isOnSet 58 = .ok (.goto (-55), 3) := by decide +kernel
theorem dX11_isOnSet_61 : decode cX11_isOnSet 61 = .ok (.iconst 0, 1) := by decide +kernel
theorem dX11_isOnSet_62 : decode cX11_isOnSet 62 = .ok (.ireturn, 1) := by decide +kernel
theorem dX11_isInside_0 : decode cX11_isInside 0 = .ok (.aload_n 0, 1) := by decide +kernel
theorem dX11_isInside_1 : decode cX11_isInside 1 = .ok (.iload_n 1, 1) := by decide +kernel
theorem dX11_isInside_2 : decode cX11_isInside 2 = .ok (.iload_n 2, 1) := by decide +kernel
theorem dX11_isInside_3 : decode cX11_isInside 3 = .ok (.iload_n 3, 1) := by decide +kernel
theorem dX11_isInside_4 : decode cX11_isInside 4 = .ok (.invokevirtual 175, 3) := by decide +kernel
theorem dX11_isInside_7 : decode cX11_isInside 7 = .ok (.ifCond .eq 5, 3) := by decide +kernel
theorem dX11_isInside_10 : decode cX11_isInside 10 = .ok (.iconst 0, 1) := by decide +kernel
theorem dX11_isInside_11 : decode cX11_isInside 11 = .ok (.ireturn, 1) := by decide +kernel
theorem dX11_isInside_12 : decode cX11_isInside 12 = .ok (.iconst 0, 1) := by decide +kernel
theorem dX11_isInside_13 : decode cX11_isInside 13 = .ok (.istore 4, 2) := by decide +kernel
theorem dX11_isInside_15 : decode cX11_isInside 15 = .ok (.iconst 0, 1) := by decide +kernel
theorem dX11_isInside_16 : decode cX11_isInside 16 = .ok (.istore 5, 2) := by decide +kernel
theorem dX11_isInside_18 : decode cX11_isInside 18 = .ok (.iload 5, 2) := by decide +kernel
theorem dX11_isInside_20 : decode cX11_isInside 20 = .ok (.aload_n 0, 1) := by decide +kernel
theorem dX11_isInside_21 : decode cX11_isInside 21 = .ok (.iload_n 1, 1) := by decide +kernel
theorem dX11_isInside_22 : decode cX11_isInside 22 = .ok (.invokevirtual 164, 3) := by decide +kernel
theorem dX11_isInside_25 : decode cX11_isInside 25 = .ok (.if_icmp .ge 134, 3) := by decide +kernel
theorem dX11_isInside_28 : decode cX11_isInside 28 = .ok (.aload_n 0, 1) := by decide +kernel
theorem dX11_isInside_29 : decode cX11_isInside 29 = .ok (.iload_n 1, 1) := by decide +kernel
theorem dX11_isInside_30 : decode cX11_isInside 30 = .ok (.iload 5, 2) := by decide +kernel
theorem dX11_isInside_32 : decode cX11_isInside 32 = .ok (.iconst 0, 1) := by decide +kernel
theorem dX11_isInside_33 : decode cX11_isInside 33 = .ok (.invokevirtual 167, 3) := by decide +kernel
theorem dX11_isInside_36 : decode cX11_isInside 36 = .ok (.aload_n 0, 1) := by decide +kernel
theorem dX11_isInside_37 : decode cX11_isInside 37 = .ok (.getfield 83, 3) := by decide +kernel
theorem dX11_isInside_40 : decode cX11_isInside 40 = .ok (.iconst 1, 1) := by decide +kernel
theorem dX11_isInside_41 : decode cX11_isInside 41 = .ok (.iaload, 1) := by decide +kernel
theorem dX11_isInside_42 : decode cX11_isInside 42 = .ok (.iload_n 3, 1) := by decide +kernel
theorem dX11_isInside_43 : decode cX11_isInside 43 = .ok (.if_icmp .le 7, 3) := by decide +kernel
theorem dX11_isInside_46 : decode cX11_isInside 46 = .ok (.iconst 1, 1) := by decide +kernel
theorem dX11_isInside_47 : decode cX11_isInside 47 = .ok (.goto 4, 3) := by decide +kernel
theorem dX11_isInside_50 : decode cX11_isInside 50 = .ok (.iconst 0, 1) := by decide +kernel
theorem dX11_isInside_51 : decode cX11_isInside 51 = .ok (.aload_n 0, 1) := by decide +kernel
theorem dX11_isInside_52 : decode cX11_isInside 52 = .ok (.getfield 83, 3) := by decide +kernel
theorem dX11_isInside_55 : decode cX11_isInside 55 = .ok (.iconst 3, 1) := by decide +kernel
theorem dX11_isInside_56 : decode cX11_isInside 56 = .ok (.iaload, 1) := by decide +kernel
theorem dX11_isInside_57 : decode cX11_isInside 57 = .ok (.iload_n 3, 1) := by decide +kernel
theorem dX11_isInside_58 : decode cX11_isInside 58 = .ok (.if_icmp .le 7, 3) := by decide +kernel
theorem dX11_isInside_61 : decode cX11_isInside 61 = .ok (.iconst 1, 1) := by decide +kernel
theorem dX11_isInside_62 : decode cX11_isInside 62 = .ok (.goto 4, 3) := by decide +kernel
theorem dX11_isInside_65 : decode cX11_isInside 65 = .ok (.iconst 0, 1) := by decide +kernel
theorem dX11_isInside_66 : decode cX11_isInside 66 = .ok (.if_icmp .ne 6, 3) := by decide +kernel
theorem dX11_isInside_69 : decode cX11_isInside 69 = .ok (.goto 84, 3) := by decide +kernel
theorem dX11_isInside_72 : decode cX11_isInside 72 = .ok (.aload_n 0, 1) := by decide +kernel
theorem dX11_isInside_73 : decode cX11_isInside 73 = .ok (.getfield 83, 3) := by decide +kernel
theorem dX11_isInside_76 : decode cX11_isInside 76 = .ok (.iconst 0, 1) := by decide +kernel
theorem dX11_isInside_77 : decode cX11_isInside 77 = .ok (.iaload, 1) := by decide +kernel
theorem dX11_isInside_78 : decode cX11_isInside 78 = .ok (.i2l, 1) := by decide +kernel
theorem dX11_isInside_79 : decode cX11_isInside 79 = .ok (.aload_n 0, 1) := by decide +kernel
theorem dX11_isInside_80 : decode cX11_isInside 80 = .ok (.getfield 83, 3) := by decide +kernel
theorem dX11_isInside_83 : decode cX11_isInside 83 = .ok (.iconst 1, 1) := by decide +kernel
theorem dX11_isInside_84 : decode cX11_isInside 84 = .ok (.iaload, 1) := by decide +kernel
theorem dX11_isInside_85 : decode cX11_isInside 85 = .ok (.i2l, 1) := by decide +kernel
theorem dX11_isInside_86 : decode cX11_isInside 86 = .ok (.aload_n 0, 1) := by decide +kernel
theorem dX11_isInside_87 : decode cX11_isInside 87 = .ok (.getfield 83, 3) := by decide +kernel
theorem dX11_isInside_90 : decode cX11_isInside 90 = .ok (.iconst 2, 1) := by decide +kernel
theorem dX11_isInside_91 : decode cX11_isInside 91 = .ok (.iaload, 1) := by decide +kernel
theorem dX11_isInside_92 : decode cX11_isInside 92 = .ok (.i2l, 1) := by decide +kernel
theorem dX11_isInside_93 : decode cX11_isInside 93 = .ok (.aload_n 0, 1) := by decide +kernel
theorem dX11_isInside_94 : decode cX11_isInside 94 = .ok (.getfield 83, 3) := by decide +kernel
theorem dX11_isInside_97 : decode cX11_isInside 97 = .ok (.iconst 3, 1) := by decide +kernel
theorem dX11_isInside_98 : decode cX11_isInside 98 = .ok (.iaload, 1) := by decide +kernel
theorem dX11_isInside_99 : decode cX11_isInside 99 = .ok (.i2l, 1) := by decide +kernel
theorem dX11_isInside_100 : decode cX11_isInside 100 = .ok (.iload_n 2, 1) := by decide +kernel
theorem dX11_isInside_101 : decode cX11_isInside 101 = .ok (.i2l, 1) := by decide +kernel
theorem dX11_isInside_102 : decode cX11_isInside 102 = .ok (.iload_n 3, 1) := by decide +kernel
theorem dX11_isInside_103 : decode cX11_isInside 103 = .ok (.i2l, 1) := by decide +kernel
theorem dX11_isInside_104 : decode cX11_isInside 104 = .ok (.invokestatic 140, 3) := by decide +kernel
theorem dX11_isInside_107 : decode cX11_isInside 107 = .ok (.lstore 6, 2) := by decide +kernel
theorem dX11_isInside_109 : decode cX11_isInside 109 = .ok (.aload_n 0, 1) := by decide +kernel
theorem dX11_isInside_110 : decode cX11_isInside 110 = .ok (.getfield 83, 3) := by decide +kernel
theorem dX11_isInside_113 : decode cX11_isInside 113 = .ok (.iconst 3, 1) := by decide +kernel
theorem dX11_isInside_114 : decode cX11_isInside 114 = .ok (.iaload, 1) := by decide +kernel
theorem dX11_isInside_115 : decode cX11_isInside 115 = .ok (.aload_n 0, 1) := by decide +kernel
theorem dX11_isInside_116 : decode cX11_isInside 116 = .ok (.getfield 83, 3) := by decide +kernel
theorem dX11_isInside_119 : decode cX11_isInside 119 = .ok (.iconst 1, 1) := by decide +kernel
theorem dX11_isInside_120 : decode cX11_isInside 120 = .ok (.iaload, 1) := by decide +kernel
theorem dX11_isInside_121 : decode cX11_isInside 121 = .ok (.if_icmp .le 13, 3) := by decide +kernel
theorem dX11_isInside_124 : decode cX11_isInside 124 = .ok (.lload 6, 2) := by decide +kernel
theorem dX11_isInside_126 : decode cX11_isInside 126 = .ok (.lconst 0, 1) := by decide +kernel
theorem dX11_isInside_127 : decode cX11_isInside 127 = .ok (.lcmp, 1) := by decide +kernel
theorem dX11_isInside_128 : decode cX11_isInside 128 = .ok (.ifCond .le 25, 3) := by decide +kernel
theorem dX11_isInside_131 : decode cX11_isInside 131 = .ok (.goto 10, 3) := by decide +kernel
theorem dX11_isInside_134 : decode cX11_isInside 134 = .ok (.lload 6, 2) := by decide +kernel
theorem dX11_isInside_136 : decode cX11_isInside 136 = .ok (.lconst 0, 1) := by decide +kernel
theorem dX11_isInside_137 : decode cX11_isInside 137 = .ok (.lcmp, 1) := by decide +kernel
theorem dX11_isInside_138 : decode cX11_isInside 138 = .ok (.ifCond .ge 15, 3) := by decide +kernel
theorem dX11_isInside_141 : decode cX11_isInside 141 = .ok (.iload 4, 2) := by decide +kernel
theorem dX11_isInside_143 : decode cX11_isInside 143 = .ok (.ifCond .ne 7, 3) := by decide +kernel
theorem dX11_isInside_146 : decode cX11_isInside 146 = .ok (.iconst 1, 1) := by decide +kernel
theorem dX11_isInside_147 : decode cX11_isInside 147 = .ok (.goto 4, 3) := by decide +kernel
theorem dX11_isInside_150 : decode cX11_isInside 150 = .ok (.iconst 0, 1) := by decide +kernel
theorem dX11_isInside_151 : decode cX11_isInside 151 = .ok (.istore 4, 2) := by decide +kernel
theorem dX11_isInside_153 : decode cX11_isInside 153 = .ok (.iinc 5 1, 3) := by decide +kernel
theorem dX11_isInside_156 : decode cX11_isInside 156 = .ok (.goto (-138), 3) := by decide +kernel
theorem dX11_isInside_159 : decode cX11_isInside 159 = .ok (.iload 4, 2) := by decide +kernel
theorem dX11_isInside_161 : decode cX11_isInside 161 = .ok (.ireturn, 1) := by decide +kernel
theorem dX11_area_0 : decode cX11_area 0 = .ok (.lconst 0, 1) := by decide +kernel
theorem dX11_area_1 : decode cX11_area 1 = .ok (.lstore_n 2, 1) := by decide +kernel
theorem dX11_area_2 : decode cX11_area 2 = .ok (.iconst 0, 1) := by decide +kernel
theorem dX11_area_3 : decode cX11_area 3 = .ok (.istore 4, 2) := by decide +kernel
theorem dX11_area_5 : decode cX11_area 5 = .ok (.iload 4, 2) := by decide +kernel
theorem dX11_area_7 : decode cX11_area 7 = .ok (.aload_n 0, 1) := by decide +kernel
theorem dX11_area_8 : decode cX11_area 8 = .ok (.getfield 41, 3) := by decide +kernel
theorem dX11_area_11 : decode cX11_area 11 = .ok (.iload_n 1, 1) := by decide +kernel
theorem dX11_area_12 : decode cX11_area 12 = .ok (.iaload, 1) := by decide +kernel
theorem dX11_area_13 : decode cX11_area 13 = .ok (.if_icmp .ge 51, 3) := by decide +kernel
theorem dX11_area_16 : decode cX11_area 16 = .ok (.aload_n 0, 1) := by decide +kernel
theorem dX11_area_17 : decode cX11_area 17 = .ok (.iload_n 1, 1) := by decide +kernel
theorem dX11_area_18 : decode cX11_area 18 = .ok (.iload 4, 2) := by decide +kernel
theorem dX11_area_20 : decode cX11_area 20 = .ok (.iconst 0, 1) := by decide +kernel
theorem dX11_area_21 : decode cX11_area 21 = .ok (.invokevirtual 167, 3) := by decide +kernel
theorem dX11_area_24 : decode cX11_area 24 = .ok (.lload_n 2, 1) := by decide +kernel
theorem dX11_area_25 : decode cX11_area 25 = .ok (.aload_n 0, 1) := by decide +kernel
theorem dX11_area_26 : decode cX11_area 26 = .ok (.getfield 83, 3) := by decide +kernel
theorem dX11_area_29 : decode cX11_area 29 = .ok (.iconst 0, 1) := by decide +kernel
theorem dX11_area_30 : decode cX11_area 30 = .ok (.iaload, 1) := by decide +kernel
theorem dX11_area_31 : decode cX11_area 31 = .ok (.i2l, 1) := by decide +kernel
theorem dX11_area_32 : decode cX11_area 32 = .ok (.aload_n 0, 1) := by decide +kernel
theorem dX11_area_33 : decode cX11_area 33 = .ok (.getfield 83, 3) := by decide +kernel
theorem dX11_area_36 : decode cX11_area 36 = .ok (.iconst 3, 1) := by decide +kernel
theorem dX11_area_37 : decode cX11_area 37 = .ok (.iaload, 1) := by decide +kernel
theorem dX11_area_38 : decode cX11_area 38 = .ok (.i2l, 1) := by decide +kernel
theorem dX11_area_39 : decode cX11_area 39 = .ok (.lmul, 1) := by decide +kernel
theorem dX11_area_40 : decode cX11_area 40 = .ok (.aload_n 0, 1) := by decide +kernel
theorem dX11_area_41 : decode cX11_area 41 = .ok (.getfield 83, 3) := by decide +kernel
theorem dX11_area_44 : decode cX11_area 44 = .ok (.iconst 2, 1) := by decide +kernel
theorem dX11_area_45 : decode cX11_area 45 = .ok (.iaload, 1) := by decide +kernel
theorem dX11_area_46 : decode cX11_area 46 = .ok (.i2l, 1) := by decide +kernel
theorem dX11_area_47 : decode cX11_area 47 = .ok (.aload_n 0, 1) := by decide +kernel
theorem dX11_area_48 : decode cX11_area 48 = .ok (.getfield 83, 3) := by decide +kernel
theorem dX11_area_51 : decode cX11_area 51 = .ok (.iconst 1, 1) := by decide +kernel
theorem dX11_area_52 : decode cX11_area 52 = .ok (.iaload, 1) := by decide +kernel
theorem dX11_area_53 : decode cX11_area 53 = .ok (.i2l, 1) := by decide +kernel
theorem dX11_area_54 : decode cX11_area 54 = .ok (.lmul, 1) := by decide +kernel
theorem dX11_area_55 : decode cX11_area 55 = .ok (.lsub, 1) := by decide +kernel
theorem dX11_area_56 : decode cX11_area 56 = .ok (.ladd, 1) := by decide +kernel
theorem dX11_area_57 : decode cX11_area 57 = .ok (.lstore_n 2, 1) := by decide +kernel
theorem dX11_area_58 : decode cX11_area 58 = .ok (.iinc 4 1, 3) := by decide +kernel
theorem dX11_area_61 : decode cX11_area 61 = .ok (.goto (-56), 3) := by decide +kernel
theorem dX11_area_64 : decode cX11_area 64 = .ok (.lload_n 2, 1) := by decide +kernel
theorem dX11_area_65 : decode cX11_area 65 = .ok (.lconst 0, 1) := by decide +kernel
theorem dX11_area_66 : decode cX11_area 66 = .ok (.lcmp, 1) := by decide +kernel
theorem dX11_area_67 : decode cX11_area 67 = .ok (.ifCond .ge 8, 3) := by decide +kernel
theorem dX11_area_70 : decode cX11_area 70 = .ok (.lload_n 2, 1) := by decide +kernel
theorem dX11_area_71 : decode cX11_area 71 = .ok (.lneg, 1) := by decide +kernel
theorem dX11_area_72 : decode cX11_area 72 = .ok (.goto 4, 3) := by decide +kernel
theorem dX11_area_75 : decode cX11_area 75 = .ok (.lload_n 2, 1) := by decide +kernel
theorem dX11_area_76 : decode cX11_area 76 = .ok (.lreturn, 1) := by decide +kernel
theorem dX11_lengthOf_0 : decode cX11_lengthOf 0 = .ok (.lconst 0, 1) := by decide +kernel
theorem dX11_lengthOf_1 : decode cX11_lengthOf 1 = .ok (.lstore_n 2, 1) := by decide +kernel
theorem dX11_lengthOf_2 : decode cX11_lengthOf 2 = .ok (.iconst 0, 1) := by decide +kernel
theorem dX11_lengthOf_3 : decode cX11_lengthOf 3 = .ok (.istore 4, 2) := by decide +kernel
theorem dX11_lengthOf_5 : decode cX11_lengthOf 5 = .ok (.iload 4, 2) := by decide +kernel
theorem dX11_lengthOf_7 : decode cX11_lengthOf 7 = .ok (.aload_n 0, 1) := by decide +kernel
theorem dX11_lengthOf_8 : decode cX11_lengthOf 8 = .ok (.getfield 41, 3) := by decide +kernel
theorem dX11_lengthOf_11 : decode cX11_lengthOf 11 = .ok (.iload_n 1, 1) := by decide +kernel
theorem dX11_lengthOf_12 : decode cX11_lengthOf 12 = .ok (.iaload, 1) := by decide +kernel
theorem dX11_lengthOf_13 : decode cX11_lengthOf 13 = .ok (.iconst 1, 1) := by decide +kernel
theorem dX11_lengthOf_14 : decode cX11_lengthOf 14 = .ok (.isub, 1) := by decide +kernel
theorem dX11_lengthOf_15 : decode cX11_lengthOf 15 = .ok (.if_icmp .ge 54, 3) := by decide +kernel
theorem dX11_lengthOf_18 : decode cX11_lengthOf 18 = .ok (.aload_n 0, 1) := by decide +kernel
theorem dX11_lengthOf_19 : decode cX11_lengthOf 19 = .ok (.iload_n 1, 1) := by decide +kernel
theorem dX11_lengthOf_20 : decode cX11_lengthOf 20 = .ok (.iload 4, 2) := by decide +kernel
theorem dX11_lengthOf_22 : decode cX11_lengthOf 22 = .ok (.iconst 0, 1) := by decide +kernel
theorem dX11_lengthOf_23 : decode cX11_lengthOf 23 = .ok (.invokevirtual 167, 3) := by decide +kernel
theorem dX11_lengthOf_26 : decode cX11_lengthOf 26 = .ok (.lload_n 2, 1) := by decide +kernel
theorem dX11_lengthOf_27 : decode cX11_lengthOf 27 = .ok (.aload_n 0, 1) := by decide +kernel
theorem dX11_lengthOf_28 : decode cX11_lengthOf 28 = .ok (.getfield 83, 3) := by decide +kernel
theorem dX11_lengthOf_31 : decode cX11_lengthOf 31 = .ok (.iconst 2, 1) := by decide +kernel
theorem dX11_lengthOf_32 : decode cX11_lengthOf 32 = .ok (.iaload, 1) := by decide +kernel
theorem dX11_lengthOf_33 : decode cX11_lengthOf 33 = .ok (.aload_n 0, 1) := by decide +kernel
theorem dX11_lengthOf_34 : decode cX11_lengthOf 34 = .ok (.getfield 83, 3) := by decide +kernel
theorem dX11_lengthOf_37 : decode cX11_lengthOf 37 = .ok (.iconst 0, 1) := by decide +kernel
theorem dX11_lengthOf_38 : decode cX11_lengthOf 38 = .ok (.iaload, 1) := by decide +kernel
theorem dX11_lengthOf_39 : decode cX11_lengthOf 39 = .ok (.isub, 1) := by decide +kernel
theorem dX11_lengthOf_40 : decode cX11_lengthOf 40 = .ok (.invokestatic 179, 3) := by decide +kernel
theorem dX11_lengthOf_43 : decode cX11_lengthOf 43 = .ok (.aload_n 0, 1) := by decide +kernel
theorem dX11_lengthOf_44 : decode cX11_lengthOf 44 = .ok (.getfield 83, 3) := by decide +kernel
theorem dX11_lengthOf_47 : decode cX11_lengthOf 47 = .ok (.iconst 3, 1) := by decide +kernel
theorem dX11_lengthOf_48 : decode cX11_lengthOf 48 = .ok (.iaload, 1) := by decide +kernel
theorem dX11_lengthOf_49 : decode cX11_lengthOf 49 = .ok (.aload_n 0, 1) := by decide +kernel
theorem dX11_lengthOf_50 : decode cX11_lengthOf 50 = .ok (.getfield 83, 3) := by decide +kernel
theorem dX11_lengthOf_53 : decode cX11_lengthOf 53 = .ok (.iconst 1, 1) := by decide +kernel
theorem dX11_lengthOf_54 : decode cX11_lengthOf 54 = .ok (.iaload, 1) := by decide +kernel
theorem dX11_lengthOf_55 : decode cX11_lengthOf 55 = .ok (.isub, 1) := by decide +kernel
theorem dX11_lengthOf_56 : decode cX11_lengthOf 56 = .ok (.invokestatic 179, 3) := by decide +kernel
theorem dX11_lengthOf_59 : decode cX11_lengthOf 59 = .ok (.iadd, 1) := by decide +kernel
theorem dX11_lengthOf_60 : decode cX11_lengthOf 60 = .ok (.i2l, 1) := by decide +kernel
theorem dX11_lengthOf_61 : decode cX11_lengthOf 61 = .ok (.ladd, 1) := by decide +kernel
theorem dX11_lengthOf_62 : decode cX11_lengthOf 62 = .ok (.lstore_n 2, 1) := by decide +kernel
theorem dX11_lengthOf_63 : decode cX11_lengthOf 63 = .ok (.iinc 4 1, 3) := by decide +kernel
theorem dX11_lengthOf_66 : decode cX11_lengthOf 66 = .ok (.goto (-61), 3) := by decide +kernel
theorem dX11_lengthOf_69 : decode cX11_lengthOf 69 = .ok (.lload_n 2, 1) := by decide +kernel
theorem dX11_lengthOf_70 : decode cX11_lengthOf 70 = .ok (.lreturn, 1) := by decide +kernel
theorem dX11_isSimple_0 : decode cX11_isSimple 0 = .ok (.aload_n 0, 1) := by decide +kernel
theorem dX11_isSimple_1 : decode cX11_isSimple 1 = .ok (.getfield 41, 3) := by decide +kernel
theorem dX11_isSimple_4 : decode cX11_isSimple 4 = .ok (.iload_n 1, 1) := by decide +kernel
theorem dX11_isSimple_5 : decode cX11_isSimple 5 = .ok (.iaload, 1) := by decide +kernel
theorem dX11_isSimple_6 : decode cX11_isSimple 6 = .ok (.istore_n 2, 1) := by decide +kernel
theorem dX11_isSimple_7 : decode cX11_isSimple 7 = .ok (.aload_n 0, 1) := by decide +kernel
theorem dX11_isSimple_8 : decode cX11_isSimple 8 = .ok (.getfield 7, 3) := by decide +kernel
theorem dX11_isSimple_11 : decode cX11_isSimple 11 = .ok (.iload_n 1, 1) := by decide +kernel
theorem dX11_isSimple_12 : decode cX11_isSimple 12 = .ok (.iaload, 1) := by decide +kernel
theorem dX11_isSimple_13 : decode cX11_isSimple 13 = .ok (.ifCond .ne 14, 3) := by decide +kernel
theorem dX11_isSimple_16 : decode cX11_isSimple 16 = .ok (.iload_n 2, 1) := by decide +kernel
theorem dX11_isSimple_17 : decode cX11_isSimple 17 = .ok (.iconst 1, 1) := by decide +kernel
theorem dX11_isSimple_18 : decode cX11_isSimple 18 = .ok (.if_icmp .ne 7, 3) := by decide +kernel
theorem dX11_isSimple_21 : decode cX11_isSimple 21 = .ok (.iconst 1, 1) := by decide +kernel
theorem dX11_isSimple_22 : decode cX11_isSimple 22 = .ok (.goto 4, 3) := by decide +kernel
theorem dX11_isSimple_25 : decode cX11_isSimple 25 = .ok (.iconst 0, 1) := by decide +kernel
theorem dX11_isSimple_26 : decode cX11_isSimple 26 = .ok (.ireturn, 1) := by decide +kernel
theorem dX11_isSimple_27 : decode cX11_isSimple 27 = .ok (.iload_n 2, 1) := by decide +kernel
theorem dX11_isSimple_28 : decode cX11_isSimple 28 = .ok (.aload_n 0, 1) := by decide +kernel
theorem dX11_isSimple_29 : decode cX11_isSimple 29 = .ok (.iload_n 1, 1) := by decide +kernel
theorem dX11_isSimple_30 : decode cX11_isSimple 30 = .ok (.invokevirtual 161, 3) := by decide +kernel
theorem dX11_isSimple_33 : decode cX11_isSimple 33 = .ok (.ifCond .eq 7, 3) := by decide +kernel
theorem dX11_isSimple_36 : decode cX11_isSimple 36 = .ok (.iconst 3, 1) := by decide +kernel
theorem dX11_isSimple_37 : decode cX11_isSimple 37 = .ok (.goto 4, 3) := by decide +kernel
theorem dX11_isSimple_40 : decode cX11_isSimple 40 = .ok (.iconst 2, 1) := by decide +kernel
theorem dX11_isSimple_41 : decode cX11_isSimple 41 = .ok (.if_icmp .ge 5, 3) := by decide +kernel
theorem dX11_isSimple_44 : decode cX11_isSimple 44 = .ok (.iconst 0, 1) := by decide +kernel
theorem dX11_isSimple_45 : decode cX11_isSimple 45 = .ok (.ireturn, 1) := by decide +kernel
theorem dX11_isSimple_46 : decode cX11_isSimple 46 = .ok (.aload_n 0, 1) := by decide +kernel
theorem dX11_isSimple_47 : decode cX11_isSimple 47 = .ok (.iload_n 1, 1) := by decide +kernel
theorem dX11_isSimple_48 : decode cX11_isSimple 48 = .ok (.invokevirtual 164, 3) := by decide +kernel
theorem dX11_isSimple_51 : decode cX11_isSimple 51 = .ok (.istore_n 3, 1) := by decide +kernel
theorem dX11_isSimple_52 : decode cX11_isSimple 52 = .ok (.iconst 0, 1) := by decide +kernel
theorem dX11_isSimple_53 : decode cX11_isSimple 53 = .ok (.istore 4, 2) := by decide +kernel
theorem dX11_isSimple_55 : decode cX11_isSimple 55 = .ok (.iload 4, 2) := by decide +kernel
theorem dX11_isSimple_57 : decode cX11_isSimple 57 = .ok (.iload_n 3, 1) := by decide +kernel
theorem dX11_isSimple_58 : decode cX11_isSimple 58 = .ok (.if_icmp .ge 49, 3) := by decide +kernel
theorem dX11_isSimple_61 : decode cX11_isSimple 61 = .ok (.aload_n 0, 1) := by decide +kernel
theorem dX11_isSimple_62 : decode cX11_isSimple 62 = .ok (.iload_n 1, 1) := by decide +kernel
theorem dX11_isSimple_63 : decode cX11_isSimple 63 = .ok (.iload 4, 2) := by decide +kernel
theorem dX11_isSimple_65 : decode cX11_isSimple 65 = .ok (.iconst 0, 1) := by decide +kernel
theorem dX11_isSimple_66 : decode cX11_isSimple 66 = .ok (.invokevirtual 167, 3) := by decide +kernel
theorem dX11_isSimple_69 : decode cX11_isSimple 69 = .ok (.aload_n 0, 1) := by decide +kernel
theorem dX11_isSimple_70 : decode cX11_isSimple 70 = .ok (.getfield 83, 3) := by decide +kernel
theorem dX11_isSimple_73 : decode cX11_isSimple 73 = .ok (.iconst 0, 1) := by decide +kernel
theorem dX11_isSimple_74 : decode cX11_isSimple 74 = .ok (.iaload, 1) := by decide +kernel
theorem dX11_isSimple_75 : decode cX11_isSimple 75 = .ok (.aload_n 0, 1) := by decide +kernel
theorem dX11_isSimple_76 : decode cX11_isSimple 76 = .ok (.getfield 83, 3) := by decide +kernel
theorem dX11_isSimple_79 : decode cX11_isSimple 79 = .ok (.iconst 2, 1) := by decide +kernel
theorem dX11_isSimple_80 : decode cX11_isSimple 80 = .ok (.iaload, 1) := by decide +kernel
theorem dX11_isSimple_81 : decode cX11_isSimple 81 = .ok (.if_icmp .ne 20, 3) := by decide +kernel
theorem dX11_isSimple_84 : decode cX11_isSimple 84 = .ok (.aload_n 0, 1) := by decide +kernel
theorem dX11_isSimple_85 : decode cX11_isSimple 85 = .ok (.getfield 83, 3) := by decide +kernel
theorem dX11_isSimple_88 : decode cX11_isSimple 88 = .ok (.iconst 1, 1) := by decide +kernel
theorem dX11_isSimple_89 : decode cX11_isSimple 89 = .ok (.iaload, 1) := by decide +kernel
theorem dX11_isSimple_90 : decode cX11_isSimple 90 = .ok (.aload_n 0, 1) := by decide +kernel
theorem dX11_isSimple_91 : decode cX11_isSimple 91 = .ok (.getfield 83, 3) := by decide +kernel
theorem dX11_isSimple_94 : decode cX11_isSimple 94 = .ok (.iconst 3, 1) := by decide +kernel
theorem dX11_isSimple_95 : decode cX11_isSimple 95 = .ok (.iaload, 1) := by decide +kernel
theorem dX11_isSimple_96 : decode cX11_isSimple 96 = .ok (.if_icmp .ne 5, 3) := by decide +kernel
theorem dX11_isSimple_99 : decode cX11_isSimple 99 = .ok (.iconst 0, 1) := by decide +kernel
theorem dX11_isSimple_100 : decode cX11_isSimple 100 = .ok (.ireturn, 1) := by decide +kernel
theorem dX11_isSimple_101 : decode cX11_isSimple 101 = .ok (.iinc 4 1, 3) := by decide +kernel
theorem dX11_isSimple_104 : decode cX11_isSimple 104 = .ok (.goto (-49), 3) := by decide +kernel
theorem dX11_isSimple_107 : decode cX11_isSimple 107 = .ok (.iconst 0, 1) := by decide +kernel
theorem dX11_isSimple_108 : decode cX11_isSimple 108 = .ok (.istore 4, 2) := by decide +kernel
theorem dX11_isSimple_110 : decode cX11_isSimple 110 = .ok (.iload 4, 2) := by decide +kernel
theorem dX11_isSimple_112 : decode cX11_isSimple 112 = .ok (.iload_n 3, 1) := by decide +kernel
theorem dX11_isSimple_113 : decode cX11_isSimple 113 = .ok (.if_icmp .ge 125, 3) := by decide +kernel
theorem dX11_isSimple_116 : decode cX11_isSimple 116 = .ok (.iload 4, 2) := by decide +kernel
theorem dX11_isSimple_118 : decode cX11_isSimple 118 = .ok (.iconst 1, 1) := by decide +kernel
theorem dX11_isSimple_119 : decode cX11_isSimple 119 = .ok (.iadd, 1) := by decide +kernel
theorem dX11_isSimple_120 : decode cX11_isSimple 120 = .ok (.istore 5, 2) := by decide +kernel
theorem dX11_isSimple_122 : decode cX11_isSimple 122 = .ok (.iload 5, 2) := by decide +kernel
theorem dX11_isSimple_124 : decode cX11_isSimple 124 = .ok (.iload_n 3, 1) := by decide +kernel
theorem dX11_isSimple_125 : decode cX11_isSimple 125 = .ok (.if_icmp .ge 107, 3) := by decide +kernel
theorem dX11_isSimple_128 : decode cX11_isSimple 128 = .ok (.iload 5, 2) := by decide +kernel
theorem dX11_isSimple_130 : decode cX11_isSimple 130 = .ok (.iload 4, 2) := by decide +kernel
theorem dX11_isSimple_132 : decode cX11_isSimple 132 = .ok (.iconst 1, 1) := by decide +kernel
theorem dX11_isSimple_133 : decode cX11_isSimple 133 = .ok (.iadd, 1) := by decide +kernel
theorem dX11_isSimple_134 : decode cX11_isSimple 134 = .ok (.if_icmp .ne 7, 3) := by decide +kernel
theorem dX11_isSimple_137 : decode cX11_isSimple 137 = .ok (.iconst 1, 1) := by decide +kernel
theorem dX11_isSimple_138 : decode cX11_isSimple 138 = .ok (.goto 4, 3) := by decide +kernel
theorem dX11_isSimple_141 : decode cX11_isSimple 141 = .ok (.iconst 0, 1) := by decide +kernel
theorem dX11_isSimple_142 : decode cX11_isSimple 142 = .ok (.istore 6, 2) := by decide +kernel
theorem dX11_isSimple_144 : decode cX11_isSimple 144 = .ok (.aload_n 0, 1) := by decide +kernel
theorem dX11_isSimple_145 : decode cX11_isSimple 145 = .ok (.iload_n 1, 1) := by decide +kernel
theorem dX11_isSimple_146 : decode cX11_isSimple 146 = .ok (.invokevirtual 161, 3) := by decide +kernel
theorem dX11_isSimple_149 : decode cX11_isSimple 149 = .ok (.ifCond .eq 20, 3) := by decide +kernel
theorem dX11_isSimple_152 : decode cX11_isSimple 152 = .ok (.iload 4, 2) := by decide +kernel
theorem dX11_isSimple_154 : decode cX11_isSimple 154 = .ok (.ifCond .ne 15, 3) := by decide +kernel
theorem dX11_isSimple_157 : decode cX11_isSimple 157 = .ok (.iload 5, 2) := by decide +kernel
theorem dX11_isSimple_159 : decode cX11_isSimple 159 = .ok (.iload_n 3, 1) := by decide +kernel
theorem dX11_isSimple_160 : decode cX11_isSimple 160 = .ok (.iconst 1, 1) := by decide +kernel
theorem dX11_isSimple_161 : decode cX11_isSimple 161 = .ok (.isub, 1) := by decide +kernel
theorem dX11_isSimple_162 : decode cX11_isSimple 162 = .ok (.if_icmp .ne 7, 3) := by decide +kernel
theorem dX11_isSimple_165 : decode cX11_isSimple 165 = .ok (.iconst 1, 1) := by decide +kernel
theorem dX11_isSimple_166 : decode cX11_isSimple 166 = .ok (.goto 4, 3) := by decide +kernel
theorem dX11_isSimple_169 : decode cX11_isSimple 169 = .ok (.iconst 0, 1) := by decide +kernel
theorem dX11_isSimple_170 : decode cX11_isSimple 170 = .ok (.istore 7, 2) := by decide +kernel
theorem dX11_isSimple_172 : decode cX11_isSimple 172 = .ok (.iload 6, 2) := by decide +kernel
theorem dX11_isSimple_174 : decode cX11_isSimple 174 = .ok (.ifCond .eq 18, 3) := by decide +kernel
theorem dX11_isSimple_177 : decode cX11_isSimple 177 = .ok (.aload_n 0, 1) := by decide +kernel
theorem dX11_isSimple_178 : decode cX11_isSimple 178 = .ok (.iload_n 1, 1) := by decide +kernel
theorem dX11_isSimple_179 : decode cX11_isSimple 179 = .ok (.iload 4, 2) := by decide +kernel
theorem dX11_isSimple_181 : decode cX11_isSimple 181 = .ok (.iload 5, 2) := by decide +kernel
theorem dX11_isSimple_183 : decode cX11_isSimple 183 = .ok (.invokevirtual 182, 3) := by decide +kernel
theorem dX11_isSimple_186 : decode cX11_isSimple 186 = .ok (.ifCond .eq 40, 3) := by decide +kernel
theorem dX11_isSimple_189 : decode cX11_isSimple 189 = .ok (.goto 35, 3) := by decide +kernel
theorem dX11_isSimple_192 : decode cX11_isSimple 192 = .ok (.iload 7, 2) := by decide +kernel
theorem dX11_isSimple_194 : decode cX11_isSimple 194 = .ok (.ifCond .eq 18, 3) := by decide +kernel
theorem dX11_isSimple_197 : decode cX11_isSimple 197 = .ok (.aload_n 0, 1) := by decide +kernel
theorem dX11_isSimple_198 : decode cX11_isSimple 198 = .ok (.iload_n 1, 1) := by decide +kernel
theorem dX11_isSimple_199 : decode cX11_isSimple 199 = .ok (.iload 5, 2) := by decide +kernel
theorem dX11_isSimple_201 : decode cX11_isSimple 201 = .ok (.iload 4, 2) := by decide +kernel
theorem dX11_isSimple_203 : decode cX11_isSimple 203 = .ok (.invokevirtual 182, 3) := by decide +kernel
theorem dX11_isSimple_206 : decode cX11_isSimple 206 = .ok (.ifCond .eq 20, 3) := by decide +kernel
theorem dX11_isSimple_209 : decode cX11_isSimple 209 = .ok (.goto 15, 3) := by decide +kernel
theorem dX11_isSimple_212 : decode cX11_isSimple 212 = .ok (.aload_n 0, 1) := by decide +kernel
theorem dX11_isSimple_213 : decode cX11_isSimple 213 = .ok (.iload_n 1, 1) := by decide +kernel
theorem dX11_isSimple_214 : decode cX11_isSimple 214 = .ok (.iload 4, 2) := by decide +kernel
theorem dX11_isSimple_216 : decode cX11_isSimple 216 = .ok (.iload 5, 2) := by decide +kernel
theorem dX11_isSimple_218 : decode cX11_isSimple 218 = .ok (.invokevirtual 185, 3) := by decide +kernel
theorem dX11_isSimple_221 : decode cX11_isSimple 221 = .ok (.ifCond .eq 5, 3) := by decide +kernel
theorem dX11_isSimple_224 : decode cX11_isSimple 224 = .ok (.iconst 0, 1) := by decide +kernel
theorem dX11_isSimple_225 : decode cX11_isSimple 225 = .ok (.ireturn, 1) := by decide +kernel
theorem dX11_isSimple_226 : decode cX11_isSimple 226 = .ok (.iinc 5 1, 3) := by decide +kernel
theorem dX11_isSimple_229 : decode cX11_isSimple 229 = .ok (.goto (-107), 3) := by decide +kernel
theorem dX11_isSimple_232 : decode cX11_isSimple 232 = .ok (.iinc 4 1, 3) := by decide +kernel
theorem dX11_isSimple_235 : decode cX11_isSimple 235 = .ok (.goto (-125), 3) := by decide +kernel
theorem dX11_isSimple_238 : decode cX11_isSimple 238 = .ok (.aload_n 0, 1) := by decide +kernel
theorem dX11_isSimple_239 : decode cX11_isSimple 239 = .ok (.getfield 7, 3) := by decide +kernel
theorem dX11_isSimple_242 : decode cX11_isSimple 242 = .ok (.iload_n 1, 1) := by decide +kernel
theorem dX11_isSimple_243 : decode cX11_isSimple 243 = .ok (.iaload, 1) := by decide +kernel
theorem dX11_isSimple_244 : decode cX11_isSimple 244 = .ok (.bipush 6, 2) := by decide +kernel
theorem dX11_isSimple_246 : decode cX11_isSimple 246 = .ok (.if_icmp .ne 11, 3) := by decide +kernel
theorem dX11_isSimple_249 : decode cX11_isSimple 249 = .ok (.aload_n 0, 1) := by decide +kernel
theorem dX11_isSimple_250 : decode cX11_isSimple 250 = .ok (.iload_n 1, 1) := by decide +kernel
theorem dX11_isSimple_251 : decode cX11_isSimple 251 = .ok (.invokevirtual 188, 3) := by decide +kernel
theorem dX11_isSimple_254 : decode cX11_isSimple 254 = .ok (.ifCond .eq 7, 3) := by decide +kernel
theorem dX11_isSimple_257 : decode cX11_isSimple 257 = .ok (.iconst 1, 1) := by decide +kernel
theorem dX11_isSimple_258 : decode cX11_isSimple 258 = .ok (.goto 4, 3) := by decide +kernel
theorem dX11_isSimple_261 : decode cX11_isSimple 261 = .ok (.iconst 0, 1) := by decide +kernel
theorem dX11_isSimple_262 : decode cX11_isSimple 262 = .ok (.ireturn, 1) := by decide +kernel
theorem dX11_meetsEdge_0 : decode cX11_meetsEdge 0 = .ok (.aload_n 0, 1) := by decide +kernel
theorem dX11_meetsEdge_1 : decode cX11_meetsEdge 1 = .ok (.iload_n 1, 1) := by decide +kernel
theorem dX11_meetsEdge_2 : decode cX11_meetsEdge 2 = .ok (.iload_n 2, 1) := by decide +kernel
theorem dX11_meetsEdge_3 : decode cX11_meetsEdge 3 = .ok (.iconst 0, 1) := by decide +kernel
theorem dX11_meetsEdge_4 : decode cX11_meetsEdge 4 = .ok (.invokevirtual 167, 3) := by decide +kernel
theorem dX11_meetsEdge_7 : decode cX11_meetsEdge 7 = .ok (.aload_n 0, 1) := by decide +kernel
theorem dX11_meetsEdge_8 : decode cX11_meetsEdge 8 = .ok (.iload_n 1, 1) := by decide +kernel
theorem dX11_meetsEdge_9 : decode cX11_meetsEdge 9 = .ok (.iload_n 3, 1) := by decide +kernel
theorem dX11_meetsEdge_10 : decode cX11_meetsEdge 10 = .ok (.iconst 4, 1) := by decide +kernel
theorem dX11_meetsEdge_11 : decode cX11_meetsEdge 11 = .ok (.invokevirtual 167, 3) := by decide +kernel
theorem dX11_meetsEdge_14 : decode cX11_meetsEdge 14 = .ok (.aload_n 0, 1) := by decide +kernel
theorem dX11_meetsEdge_15 : decode cX11_meetsEdge 15 = .ok (.getfield 83, 3) := by decide +kernel
theorem dX11_meetsEdge_18 : decode cX11_meetsEdge 18 = .ok (.invokestatic 171, 3) := by decide +kernel
theorem dX11_meetsEdge_21 : decode cX11_meetsEdge 21 = .ok (.ireturn, 1) := by decide +kernel
theorem dX11_folds_0 : decode cX11_folds 0 = .ok (.aload_n 0, 1) := by decide +kernel
theorem dX11_folds_1 : decode cX11_folds 1 = .ok (.iload_n 1, 1) := by decide +kernel
theorem dX11_folds_2 : decode cX11_folds 2 = .ok (.iload_n 2, 1) := by decide +kernel
theorem dX11_folds_3 : decode cX11_folds 3 = .ok (.iconst 0, 1) := by decide +kernel
theorem dX11_folds_4 : decode cX11_folds 4 = .ok (.invokevirtual 167, 3) := by decide +kernel
theorem dX11_folds_7 : decode cX11_folds 7 = .ok (.aload_n 0, 1) := by decide +kernel
theorem dX11_folds_8 : decode cX11_folds 8 = .ok (.iload_n 1, 1) := by decide +kernel
theorem dX11_folds_9 : decode cX11_folds 9 = .ok (.iload_n 3, 1) := by decide +kernel
theorem dX11_folds_10 : decode cX11_folds 10 = .ok (.iconst 4, 1) := by decide +kernel
theorem dX11_folds_11 : decode cX11_folds 11 = .ok (.invokevirtual 167, 3) := by decide +kernel
theorem dX11_folds_14 : decode cX11_folds 14 = .ok (.aload_n 0, 1) := by decide +kernel
theorem dX11_folds_15 : decode cX11_folds 15 = .ok (.getfield 83, 3) := by decide +kernel
theorem dX11_folds_18 : decode cX11_folds 18 = .ok (.iconst 0, 1) := by decide +kernel
theorem dX11_folds_19 : decode cX11_folds 19 = .ok (.iaload, 1) := by decide +kernel
theorem dX11_folds_20 : decode cX11_folds 20 = .ok (.i2l, 1) := by decide +kernel
theorem dX11_folds_21 : decode cX11_folds 21 = .ok (.aload_n 0, 1) := by decide +kernel
theorem dX11_folds_22 : decode cX11_folds 22 = .ok (.getfield 83, 3) := by decide +kernel
theorem dX11_folds_25 : decode cX11_folds 25 = .ok (.iconst 1, 1) := by decide +kernel
theorem dX11_folds_26 : decode cX11_folds 26 = .ok (.iaload, 1) := by decide +kernel
theorem dX11_folds_27 : decode cX11_folds 27 = .ok (.i2l, 1) := by decide +kernel
theorem dX11_folds_28 : decode cX11_folds 28 = .ok (.aload_n 0, 1) := by decide +kernel
theorem dX11_folds_29 : decode cX11_folds 29 = .ok (.getfield 83, 3) := by decide +kernel
theorem dX11_folds_32 : decode cX11_folds 32 = .ok (.iconst 2, 1) := by decide +kernel
theorem dX11_folds_33 : decode cX11_folds 33 = .ok (.iaload, 1) := by decide +kernel
theorem dX11_folds_34 : decode cX11_folds 34 = .ok (.i2l, 1) := by decide +kernel
theorem dX11_folds_35 : decode cX11_folds 35 = .ok (.aload_n 0, 1) := by decide +kernel
theorem dX11_folds_36 : decode cX11_folds 36 = .ok (.getfield 83, 3) := by decide +kernel
theorem dX11_folds_39 : decode cX11_folds 39 = .ok (.iconst 3, 1) := by decide +kernel
theorem dX11_folds_40 : decode cX11_folds 40 = .ok (.iaload, 1) := by decide +kernel
theorem dX11_folds_41 : decode cX11_folds 41 = .ok (.i2l, 1) := by decide +kernel
theorem dX11_folds_42 : decode cX11_folds 42 = .ok (.aload_n 0, 1) := by decide +kernel
theorem dX11_folds_43 : decode cX11_folds 43 = .ok (.getfield 83, 3) := by decide +kernel
theorem dX11_folds_46 : decode cX11_folds 46 = .ok (.bipush 6, 2) := by decide +kernel
theorem dX11_folds_48 : decode cX11_folds 48 = .ok (.iaload, 1) := by decide +kernel
theorem dX11_folds_49 : decode cX11_folds 49 = .ok (.i2l, 1) := by decide +kernel
theorem dX11_folds_50 : decode cX11_folds 50 = .ok (.aload_n 0, 1) := by decide +kernel
theorem dX11_folds_51 : decode cX11_folds 51 = .ok (.getfield 83, 3) := by decide +kernel
theorem dX11_folds_54 : decode cX11_folds 54 = .ok (.bipush 7, 2) := by decide +kernel
theorem dX11_folds_56 : decode cX11_folds 56 = .ok (.iaload, 1) := by decide +kernel
theorem dX11_folds_57 : decode cX11_folds 57 = .ok (.i2l, 1) := by decide +kernel
theorem dX11_folds_58 : decode cX11_folds 58 = .ok (.invokestatic 140, 3) := by decide +kernel
theorem dX11_folds_61 : decode cX11_folds 61 = .ok (.lconst 0, 1) := by decide +kernel
theorem dX11_folds_62 : decode cX11_folds 62 = .ok (.lcmp, 1) := by decide +kernel
theorem dX11_folds_63 : decode cX11_folds 63 = .ok (.ifCond .eq 5, 3) := by decide +kernel
theorem dX11_folds_66 : decode cX11_folds 66 = .ok (.iconst 0, 1) := by decide +kernel
theorem dX11_folds_67 : decode cX11_folds 67 = .ok (.ireturn, 1) := by decide +kernel
theorem dX11_folds_68 : decode cX11_folds 68 = .ok (.aload_n 0, 1) := by decide +kernel
theorem dX11_folds_69 : decode cX11_folds 69 = .ok (.getfield 83, 3) := by decide +kernel
theorem dX11_folds_72 : decode cX11_folds 72 = .ok (.iconst 0, 1) := by decide +kernel
theorem dX11_folds_73 : decode cX11_folds 73 = .ok (.iaload, 1) := by decide +kernel
theorem dX11_folds_74 : decode cX11_folds 74 = .ok (.aload_n 0, 1) := by decide +kernel
theorem dX11_folds_75 : decode cX11_folds 75 = .ok (.getfield 83, 3) := by decide +kernel
theorem dX11_folds_78 : decode cX11_folds 78 = .ok (.iconst 2, 1) := by decide +kernel
theorem dX11_folds_79 : decode cX11_folds 79 = .ok (.iaload, 1) := by decide +kernel
theorem dX11_folds_80 : decode cX11_folds 80 = .ok (.isub, 1) := by decide +kernel
theorem dX11_folds_81 : decode cX11_folds 81 = .ok (.i2l, 1) := by decide +kernel
theorem dX11_folds_82 : decode cX11_folds 82 = .ok (.aload_n 0, 1) := by decide +kernel
theorem dX11_folds_83 : decode cX11_folds 83 = .ok (.getfield 83, 3) := by decide +kernel
theorem dX11_folds_86 : decode cX11_folds 86 = .ok (.bipush 6, 2) := by decide +kernel
theorem dX11_folds_88 : decode cX11_folds 88 = .ok (.iaload, 1) := by decide +kernel
theorem dX11_folds_89 : decode cX11_folds 89 = .ok (.aload_n 0, 1) := by decide +kernel
theorem dX11_folds_90 : decode cX11_folds 90 = .ok (.getfield 83, 3) := by decide +kernel
theorem dX11_folds_93 : decode cX11_folds 93 = .ok (.iconst 2, 1) := by decide +kernel
theorem dX11_folds_94 : decode cX11_folds 94 = .ok (.iaload, 1) := by decide +kernel
theorem dX11_folds_95 : decode cX11_folds 95 = .ok (.isub, 1) := by decide +kernel
theorem dX11_folds_96 : decode cX11_folds 96 = .ok (.i2l, 1) := by decide +kernel
theorem dX11_folds_97 : decode cX11_folds 97 = .ok (.lmul, 1) := by decide +kernel
theorem dX11_folds_98 : decode cX11_folds 98 = .ok (.aload_n 0, 1) := by decide +kernel
theorem dX11_folds_99 : decode cX11_folds 99 = .ok (.getfield 83, 3) := by decide +kernel
theorem dX11_folds_102 : decode cX11_folds 102 = .ok (.iconst 1, 1) := by decide +kernel
theorem dX11_folds_103 : decode cX11_folds 103 = .ok (.iaload, 1) := by decide +kernel
theorem dX11_folds_104 : decode cX11_folds 104 = .ok (.aload_n 0, 1) := by decide +kernel
theorem dX11_folds_105 : decode cX11_folds 105 = .ok (.getfield 83, 3) := by decide +kernel
theorem dX11_folds_108 : decode cX11_folds 108 = .ok (.iconst 3, 1) := by decide +kernel
theorem dX11_folds_109 : decode cX11_folds 109 = .ok (.iaload, 1) := by decide +kernel
theorem dX11_folds_110 : decode cX11_folds 110 = .ok (.isub, 1) := by decide +kernel
theorem dX11_folds_111 : decode cX11_folds 111 = .ok (.i2l, 1) := by decide +kernel
theorem dX11_folds_112 : decode cX11_folds 112 = .ok (.aload_n 0, 1) := by decide +kernel
theorem dX11_folds_113 : decode cX11_folds 113 = .ok (.getfield 83, 3) := by decide +kernel
theorem dX11_folds_116 : decode cX11_folds 116 = .ok (.bipush 7, 2) := by decide +kernel
theorem dX11_folds_118 : decode cX11_folds 118 = .ok (.iaload, 1) := by decide +kernel
theorem dX11_folds_119 : decode cX11_folds 119 = .ok (.aload_n 0, 1) := by decide +kernel
theorem dX11_folds_120 : decode cX11_folds 120 = .ok (.getfield 83, 3) := by decide +kernel
theorem dX11_folds_123 : decode cX11_folds 123 = .ok (.iconst 3, 1) := by decide +kernel
theorem dX11_folds_124 : decode cX11_folds 124 = .ok (.iaload, 1) := by decide +kernel
theorem dX11_folds_125 : decode cX11_folds 125 = .ok (.isub, 1) := by decide +kernel
theorem dX11_folds_126 : decode cX11_folds 126 = .ok (.i2l, 1) := by decide +kernel
theorem dX11_folds_127 : decode cX11_folds 127 = .ok (.lmul, 1) := by decide +kernel
theorem dX11_folds_128 : decode cX11_folds 128 = .ok (.ladd, 1) := by decide +kernel
theorem dX11_folds_129 : decode cX11_folds 129 = .ok (.lstore 4, 2) := by decide +kernel
theorem dX11_folds_131 : decode cX11_folds 131 = .ok (.lload 4, 2) := by decide +kernel
theorem dX11_folds_133 : decode cX11_folds 133 = .ok (.lconst 0, 1) := by decide +kernel
theorem dX11_folds_134 : decode cX11_folds 134 = .ok (.lcmp, 1) := by decide +kernel
theorem dX11_folds_135 : decode cX11_folds 135 = .ok (.ifCond .le 7, 3) := by decide +kernel
theorem dX11_folds_138 : decode cX11_folds 138 = .ok (.iconst 1, 1) := by decide +kernel
theorem dX11_folds_139 : decode cX11_folds 139 = .ok (.goto 4, 3) := by decide +kernel
theorem dX11_folds_142 : decode cX11_folds 142 = .ok (.iconst 0, 1) := by decide +kernel
theorem dX11_folds_143 : decode cX11_folds 143 = .ok (.ireturn, 1) := by decide +kernel
theorem dX11_isSquare_0 : decode cX11_isSquare 0 = .ok (.iconst 0, 1) := by decide +kernel
theorem dX11_isSquare_1 : decode cX11_isSquare 1 = .ok (.istore_n 2, 1) := by decide +kernel
theorem dX11_isSquare_2 : decode cX11_isSquare 2 = .ok (.iload_n 2, 1) := by decide +kernel
theorem dX11_isSquare_3 : decode cX11_isSquare 3 = .ok (.aload_n 0, 1) := by decide +kernel
theorem dX11_isSquare_4 : decode cX11_isSquare 4 = .ok (.getfield 41, 3) := by decide +kernel
theorem dX11_isSquare_7 : decode cX11_isSquare 7 = .ok (.iload_n 1, 1) := by decide +kernel
theorem dX11_isSquare_8 : decode cX11_isSquare 8 = .ok (.iaload, 1) := by decide +kernel
theorem dX11_isSquare_9 : decode cX11_isSquare 9 = .ok (.if_icmp .ge 109, 3) := by decide +kernel
theorem dX11_isSquare_12 : decode cX11_isSquare 12 = .ok (.aload_n 0, 1) := by decide +kernel
theorem dX11_isSquare_13 : decode cX11_isSquare 13 = .ok (.iload_n 1, 1) := by decide +kernel
theorem dX11_isSquare_14 : decode cX11_isSquare 14 = .ok (.iload_n 2, 1) := by decide +kernel
theorem dX11_isSquare_15 : decode cX11_isSquare 15 = .ok (.iconst 0, 1) := by decide +kernel
theorem dX11_isSquare_16 : decode cX11_isSquare 16 = .ok (.invokevirtual 167, 3) := by decide +kernel
theorem dX11_isSquare_19 : decode cX11_isSquare 19 = .ok (.aload_n 0, 1) := by decide +kernel
theorem dX11_isSquare_20 : decode cX11_isSquare 20 = .ok (.iload_n 1, 1) := by decide +kernel
theorem dX11_isSquare_21 : decode cX11_isSquare 21 = .ok (.iload_n 2, 1) := by decide +kernel
theorem dX11_isSquare_22 : decode cX11_isSquare 22 = .ok (.iconst 1, 1) := by decide +kernel
theorem dX11_isSquare_23 : decode cX11_isSquare 23 = .ok (.iadd, 1) := by decide +kernel
theorem dX11_isSquare_24 : decode cX11_isSquare 24 = .ok (.aload_n 0, 1) := by decide +kernel
theorem dX11_isSquare_25 : decode cX11_isSquare 25 = .ok (.getfield 41, 3) := by decide +kernel
theorem dX11_isSquare_28 : decode cX11_isSquare 28 = .ok (.iload_n 1, 1) := by decide +kernel
theorem dX11_isSquare_29 : decode cX11_isSquare 29 = .ok (.iaload, 1) := by decide +kernel
theorem dX11_isSquare_30 : decode cX11_isSquare 30 = .ok (.if_icmp .ne 7, 3) := by decide +kernel
theorem dX11_isSquare_33 : decode cX11_isSquare 33 = .ok (.iconst 0, 1) := by decide +kernel
theorem dX11_isSquare_34 : decode cX11_isSquare 34 = .ok (.goto 6, 3) := by decide +kernel
theorem dX11_isSquare_37 : decode cX11_isSquare 37 = .ok (.iload_n 2, 1) := by decide +kernel
theorem dX11_isSquare_38 : decode cX11_isSquare 38 = .ok (.iconst 1, 1) := by decide +kernel
theorem dX11_isSquare_39 : decode cX11_isSquare 39 = .ok (.iadd, 1) := by decide +kernel
theorem dX11_isSquare_40 : decode cX11_isSquare 40 = .ok (.iconst 4, 1) := by decide +kernel
theorem dX11_isSquare_41 : decode cX11_isSquare 41 = .ok (.invokevirtual 167, 3) := by decide +kernel
theorem dX11_isSquare_44 : decode cX11_isSquare 44 = .ok (.aload_n 0, 1) := by decide +kernel
theorem dX11_isSquare_45 : decode cX11_isSquare 45 = .ok (.getfield 83, 3) := by decide +kernel
theorem dX11_isSquare_48 : decode cX11_isSquare 48 = .ok (.iconst 2, 1) := by decide +kernel
theorem dX11_isSquare_49 : decode cX11_isSquare 49 = .ok (.iaload, 1) := by decide +kernel
theorem dX11_isSquare_50 : decode cX11_isSquare 50 = .ok (.aload_n 0, 1) := by decide +kernel
theorem dX11_isSquare_51 : decode cX11_isSquare 51 = .ok (.getfield 83, 3) := by decide +kernel
theorem dX11_isSquare_54 : decode cX11_isSquare 54 = .ok (.iconst 0, 1) := by decide +kernel
theorem dX11_isSquare_55 : decode cX11_isSquare 55 = .ok (.iaload, 1) := by decide +kernel
theorem dX11_isSquare_56 : decode cX11_isSquare 56 = .ok (.isub, 1) := by decide +kernel
theorem dX11_isSquare_57 : decode cX11_isSquare 57 = .ok (.i2l, 1) := by decide +kernel
theorem dX11_isSquare_58 : decode cX11_isSquare 58 = .ok (.aload_n 0, 1) := by decide +kernel
theorem dX11_isSquare_59 : decode cX11_isSquare 59 = .ok (.getfield 83, 3) := by decide +kernel
theorem dX11_isSquare_62 : decode cX11_isSquare 62 = .ok (.bipush 6, 2) := by decide +kernel
theorem dX11_isSquare_64 : decode cX11_isSquare 64 = .ok (.iaload, 1) := by decide +kernel
theorem dX11_isSquare_65 : decode cX11_isSquare 65 = .ok (.aload_n 0, 1) := by decide +kernel
theorem dX11_isSquare_66 : decode cX11_isSquare 66 = .ok (.getfield 83, 3) := by decide +kernel
theorem dX11_isSquare_69 : decode cX11_isSquare 69 = .ok (.iconst 4, 1) := by decide +kernel
theorem dX11_isSquare_70 : decode cX11_isSquare 70 = .ok (.iaload, 1) := by decide +kernel
theorem dX11_isSquare_71 : decode cX11_isSquare 71 = .ok (.isub, 1) := by decide +kernel
theorem dX11_isSquare_72 : decode cX11_isSquare 72 = .ok (.i2l, 1) := by decide +kernel
theorem dX11_isSquare_73 : decode cX11_isSquare 73 = .ok (.lmul, 1) := by decide +kernel
theorem dX11_isSquare_74 : decode cX11_isSquare 74 = .ok (.aload_n 0, 1) := by decide +kernel
theorem dX11_isSquare_75 : decode cX11_isSquare 75 = .ok (.getfield 83, 3) := by decide +kernel
theorem dX11_isSquare_78 : decode cX11_isSquare 78 = .ok (.iconst 3, 1) := by decide +kernel
theorem dX11_isSquare_79 : decode cX11_isSquare 79 = .ok (.iaload, 1) := by decide +kernel
theorem dX11_isSquare_80 : decode cX11_isSquare 80 = .ok (.aload_n 0, 1) := by decide +kernel
theorem dX11_isSquare_81 : decode cX11_isSquare 81 = .ok (.getfield 83, 3) := by decide +kernel
theorem dX11_isSquare_84 : decode cX11_isSquare 84 = .ok (.iconst 1, 1) := by decide +kernel
theorem dX11_isSquare_85 : decode cX11_isSquare 85 = .ok (.iaload, 1) := by decide +kernel
theorem dX11_isSquare_86 : decode cX11_isSquare 86 = .ok (.isub, 1) := by decide +kernel
theorem dX11_isSquare_87 : decode cX11_isSquare 87 = .ok (.i2l, 1) := by decide +kernel
theorem dX11_isSquare_88 : decode cX11_isSquare 88 = .ok (.aload_n 0, 1) := by decide +kernel
theorem dX11_isSquare_89 : decode cX11_isSquare 89 = .ok (.getfield 83, 3) := by decide +kernel
theorem dX11_isSquare_92 : decode cX11_isSquare 92 = .ok (.bipush 7, 2) := by decide +kernel
theorem dX11_isSquare_94 : decode cX11_isSquare 94 = .ok (.iaload, 1) := by decide +kernel
theorem dX11_isSquare_95 : decode cX11_isSquare 95 = .ok (.aload_n 0, 1) := by decide +kernel
theorem dX11_isSquare_96 : decode cX11_isSquare 96 = .ok (.getfield 83, 3) := by decide +kernel
theorem dX11_isSquare_99 : decode cX11_isSquare 99 = .ok (.iconst 5, 1) := by decide +kernel
theorem dX11_isSquare_100 : decode cX11_isSquare 100 = .ok (.iaload, 1) := by decide +kernel
theorem dX11_isSquare_101 : decode cX11_isSquare 101 = .ok (.isub, 1) := by decide +kernel
theorem dX11_isSquare_102 : decode cX11_isSquare 102 = .ok (.i2l, 1) := by decide +kernel
theorem dX11_isSquare_103 : decode cX11_isSquare 103 = .ok (.lmul, 1) := by decide +kernel
theorem dX11_isSquare_104 : decode cX11_isSquare 104 = .ok (.ladd, 1) := by decide +kernel
theorem dX11_isSquare_105 : decode cX11_isSquare 105 = .ok (.lconst 0, 1) := by decide +kernel
theorem dX11_isSquare_106 : decode cX11_isSquare 106 = .ok (.lcmp, 1) := by decide +kernel
theorem dX11_isSquare_107 : decode cX11_isSquare 107 = .ok (.ifCond .eq 5, 3) := by decide +kernel
theorem dX11_isSquare_110 : decode cX11_isSquare 110 = .ok (.iconst 0, 1) := by decide +kernel
theorem dX11_isSquare_111 : decode cX11_isSquare 111 = .ok (.ireturn, 1) := by decide +kernel
theorem dX11_isSquare_112 : decode cX11_isSquare 112 = .ok (.iinc 2 1, 3) := by decide +kernel
theorem dX11_isSquare_115 : decode cX11_isSquare 115 = .ok (.goto (-113), 3) := by decide +kernel
theorem dX11_isSquare_118 : decode cX11_isSquare 118 = .ok (.iconst 1, 1) := by decide +kernel
theorem dX11_isSquare_119 : decode cX11_isSquare 119 = .ok (.ireturn, 1) := by decide +kernel
theorem dX11_remember_0 : decode cX11_remember 0 = .ok (.aload_n 0, 1) := by decide +kernel
theorem dX11_remember_1 : decode cX11_remember 1 = .ok (.aload_n 0, 1) := by decide +kernel
theorem dX11_remember_2 : decode cX11_remember 2 = .ok (.getfield 41, 3) := by decide +kernel
theorem dX11_remember_5 : decode cX11_remember 5 = .ok (.iload_n 1, 1) := by decide +kernel
theorem dX11_remember_6 : decode cX11_remember 6 = .ok (.iaload, 1) := by decide +kernel
theorem dX11_remember_7 : decode cX11_remember 7 = .ok (.putfield 191, 3) := by decide +kernel
theorem dX11_remember_10 : decode cX11_remember 10 = .ok (.aload_n 0, 1) := by decide +kernel
theorem dX11_remember_11 : decode cX11_remember 11 = .ok (.aload_n 0, 1) := by decide +kernel
theorem dX11_remember_12 : decode cX11_remember 12 = .ok (.getfield 7, 3) := by decide +kernel
theorem dX11_remember_15 : decode cX11_remember 15 = .ok (.iload_n 1, 1) := by decide +kernel
theorem dX11_remember_16 : decode cX11_remember 16 = .ok (.iaload, 1) := by decide +kernel
theorem dX11_remember_17 : decode cX11_remember 17 = .ok (.putfield 194, 3) := by decide +kernel
theorem dX11_remember_20 : decode cX11_remember 20 = .ok (.iconst 0, 1) := by decide +kernel
theorem dX11_remember_21 : decode cX11_remember 21 = .ok (.istore_n 2, 1) := by decide +kernel
theorem dX11_remember_22 : decode cX11_remember 22 = .ok (.iload_n 2, 1) := by decide +kernel
theorem dX11_remember_23 : decode cX11_remember 23 = .ok (.aload_n 0, 1) := by decide +kernel
theorem dX11_remember_24 : decode cX11_remember 24 = .ok (.getfield 191, 3) := by decide +kernel
theorem dX11_remember_27 : decode cX11_remember 27 = .ok (.if_icmp .ge 43, 3) := by decide +kernel
theorem dX11_remember_30 : decode cX11_remember 30 = .ok (.aload_n 0, 1) := by decide +kernel
theorem dX11_remember_31 : decode cX11_remember 31 = .ok (.getfield 86, 3) := by decide +kernel
theorem dX11_remember_34 : decode cX11_remember 34 = .ok (.iload_n 2, 1) := by decide +kernel
theorem dX11_remember_35 : decode cX11_remember 35 = .ok (.aload_n 0, 1) := by decide +kernel
theorem dX11_remember_36 : decode cX11_remember 36 = .ok (.getfield 44, 3) := by decide +kernel
theorem dX11_remember_39 : decode cX11_remember 39 = .ok (.bipush 40, 2) := by decide +kernel
theorem dX11_remember_41 : decode cX11_remember 41 = .ok (.iload_n 1, 1) := by decide +kernel
theorem dX11_remember_42 : decode cX11_remember 42 = .ok (.imul, 1) := by decide +kernel
theorem dX11_remember_43 : decode cX11_remember 43 = .ok (.iload_n 2, 1) := by decide +kernel
theorem dX11_remember_44 : decode cX11_remember 44 = .ok (.iadd, 1) := by decide +kernel
theorem dX11_remember_45 : decode cX11_remember 45 = .ok (.iaload, 1) := by decide +kernel
theorem dX11_remember_46 : decode cX11_remember 46 = .ok (.iastore, 1) := by decide +kernel
theorem dX11_remember_47 : decode cX11_remember 47 = .ok (.aload_n 0, 1) := by decide +kernel
theorem dX11_remember_48 : decode cX11_remember 48 = .ok (.getfield 89, 3) := by decide +kernel
theorem dX11_remember_51 : decode cX11_remember 51 = .ok (.iload_n 2, 1) := by decide +kernel
theorem dX11_remember_52 : decode cX11_remember 52 = .ok (.aload_n 0, 1) := by decide +kernel
theorem dX11_remember_53 : decode cX11_remember 53 = .ok (.getfield 47, 3) := by decide +kernel
theorem dX11_remember_56 : decode cX11_remember 56 = .ok (.bipush 40, 2) := by decide +kernel
theorem dX11_remember_58 : decode cX11_remember 58 = .ok (.iload_n 1, 1) := by decide +kernel
theorem dX11_remember_59 : decode cX11_remember 59 = .ok (.imul, 1) := by decide +kernel
theorem dX11_remember_60 : decode cX11_remember 60 = .ok (.iload_n 2, 1) := by decide +kernel
theorem dX11_remember_61 : decode cX11_remember 61 = .ok (.iadd, 1) := by decide +kernel
theorem dX11_remember_62 : decode cX11_remember 62 = .ok (.iaload, 1) := by decide +kernel
theorem dX11_remember_63 : decode cX11_remember 63 = .ok (.iastore, 1) := by decide +kernel
theorem dX11_remember_64 : decode cX11_remember 64 = .ok (.iinc 2 1, 3) := by decide +kernel
theorem dX11_remember_67 : decode cX11_remember 67 = .ok (.goto (-45), 3) := by decide +kernel
theorem dX11_remember_70 : decode cX11_remember 70 = .ok (.iconst 0, 1) := by decide +kernel
theorem dX11_remember_71 : decode cX11_remember 71 = .ok (.istore_n 2, 1) := by decide +kernel
theorem dX11_remember_72 : decode cX11_remember 72 = .ok (.iload_n 2, 1) := by decide +kernel
theorem dX11_remember_73 : decode cX11_remember 73 = .ok (.aload_n 0, 1) := by decide +kernel
theorem dX11_remember_74 : decode cX11_remember 74 = .ok (.getfield 130, 3) := by decide +kernel
theorem dX11_remember_77 : decode cX11_remember 77 = .ok (.if_icmp .ge 140, 3) := by decide +kernel
theorem dX11_remember_80 : decode cX11_remember 80 = .ok (.iload_n 2, 1) := by decide +kernel
theorem dX11_remember_81 : decode cX11_remember 81 = .ok (.iload_n 1, 1) := by decide +kernel
theorem dX11_remember_82 : decode cX11_remember 82 = .ok (.if_icmp .eq 129, 3) := by decide +kernel
theorem dX11_remember_85 : decode cX11_remember 85 = .ok (.aload_n 0, 1) := by decide +kernel
theorem dX11_remember_86 : decode cX11_remember 86 = .ok (.iload_n 2, 1) := by decide +kernel
theorem dX11_remember_87 : decode cX11_remember 87 = .ok (.invokevirtual 197, 3) := by decide +kernel
theorem dX11_remember_90 : decode cX11_remember 90 = .ok (.ifCond .ne 6, 3) := by decide +kernel
theorem dX11_remember_93 : decode cX11_remember 93 = .ok (.goto 118, 3) := by decide +kernel
theorem dX11_remember_96 : decode cX11_remember 96 = .ok (.aload_n 0, 1) := by decide +kernel
theorem dX11_remember_97 : decode cX11_remember 97 = .ok (.getfield 92, 3) := by decide +kernel
theorem dX11_remember_100 : decode cX11_remember 100 = .ok (.iload_n 2, 1) := by decide +kernel
theorem dX11_remember_101 : decode cX11_remember 101 = .ok (.aload_n 0, 1) := by decide +kernel
theorem dX11_remember_102 : decode cX11_remember 102 = .ok (.iload_n 1, 1) := by decide +kernel
theorem dX11_remember_103 : decode cX11_remember 103 = .ok (.iload_n 2, 1) := by decide +kernel
theorem dX11_remember_104 : decode cX11_remember 104 = .ok (.invokevirtual 200, 3) := by decide +kernel
theorem dX11_remember_107 : decode cX11_remember 107 = .ok (.bastore, 1) := by decide +kernel
theorem dX11_remember_108 : decode cX11_remember 108 = .ok (.aload_n 0, 1) := by decide +kernel
theorem dX11_remember_109 : decode cX11_remember 109 = .ok (.getfield 95, 3) := by decide +kernel
theorem dX11_remember_112 : decode cX11_remember 112 = .ok (.iload_n 2, 1) := by decide +kernel
theorem dX11_remember_113 : decode cX11_remember 113 = .ok (.aload_n 0, 1) := by decide +kernel
theorem dX11_remember_114 : decode cX11_remember 114 = .ok (.iload_n 2, 1) := by decide +kernel
theorem dX11_remember_115 : decode cX11_remember 115 = .ok (.invokevirtual 161, 3) := by decide +kernel
theorem dX11_remember_118 : decode cX11_remember 118 = .ok (.ifCond .eq 27, 3) := by decide +kernel
theorem dX11_remember_121 : decode cX11_remember 121 = .ok (.aload_n 0, 1) := by decide +kernel
theorem dX11_remember_122 : decode cX11_remember 122 = .ok (.iload_n 2, 1) := by decide +kernel
theorem dX11_remember_123 : decode cX11_remember 123 = .ok (.aload_n 0, 1) := by decide +kernel
theorem dX11_remember_124 : decode cX11_remember 124 = .ok (.getfield 86, 3) := by decide +kernel
theorem dX11_remember_127 : decode cX11_remember 127 = .ok (.iconst 0, 1) := by decide +kernel
theorem dX11_remember_128 : decode cX11_remember 128 = .ok (.iaload, 1) := by decide +kernel
theorem dX11_remember_129 : decode cX11_remember 129 = .ok (.aload_n 0, 1) := by decide +kernel
theorem dX11_remember_130 : decode cX11_remember 130 = .ok (.getfield 89, 3) := by decide +kernel
theorem dX11_remember_133 : decode cX11_remember 133 = .ok (.iconst 0, 1) := by decide +kernel
theorem dX11_remember_134 : decode cX11_remember 134 = .ok (.iaload, 1) := by decide +kernel
theorem dX11_remember_135 : decode cX11_remember 135 = .ok (.invokevirtual 204, 3) := by decide +kernel
theorem dX11_remember_138 : decode cX11_remember 138 = .ok (.ifCond .eq 7, 3) := by decide +kernel
theorem dX11_remember_141 : decode cX11_remember 141 = .ok (.iconst 1, 1) := by decide +kernel
theorem dX11_remember_142 : decode cX11_remember 142 = .ok (.goto 4, 3) := by decide +kernel
theorem dX11_remember_145 : decode cX11_remember 145 = .ok (.iconst 0, 1) := by decide +kernel
theorem dX11_remember_146 : decode cX11_remember 146 = .ok (.bastore, 1) := by decide +kernel
theorem dX11_remember_147 : decode cX11_remember 147 = .ok (.iconst 0, 1) := by decide +kernel
theorem dX11_remember_148 : decode cX11_remember 148 = .ok (.istore_n 3, 1) := by decide +kernel
theorem dX11_remember_149 : decode cX11_remember 149 = .ok (.iload_n 3, 1) := by decide +kernel
theorem dX11_remember_150 : decode cX11_remember 150 = .ok (.aload_n 0, 1) := by decide +kernel
theorem dX11_remember_151 : decode cX11_remember 151 = .ok (.getfield 41, 3) := by decide +kernel
theorem dX11_remember_154 : decode cX11_remember 154 = .ok (.iload_n 2, 1) := by decide +kernel
theorem dX11_remember_155 : decode cX11_remember 155 = .ok (.iaload, 1) := by decide +kernel
theorem dX11_remember_156 : decode cX11_remember 156 = .ok (.if_icmp .ge 55, 3) := by decide +kernel
theorem dX11_remember_159 : decode cX11_remember 159 = .ok (.aload_n 0, 1) := by decide +kernel
theorem dX11_remember_160 : decode cX11_remember 160 = .ok (.iload_n 1, 1) := by decide +kernel
theorem dX11_remember_161 : decode cX11_remember 161 = .ok (.invokevirtual 161, 3) := by decide +kernel
theorem dX11_remember_164 : decode cX11_remember 164 = .ok (.ifCond .eq 47, 3) := by decide +kernel
theorem dX11_remember_167 : decode cX11_remember 167 = .ok (.aload_n 0, 1) := by decide +kernel
theorem dX11_remember_168 : decode cX11_remember 168 = .ok (.getfield 98, 3) := by decide +kernel
theorem dX11_remember_171 : decode cX11_remember 171 = .ok (.bipush 40, 2) := by decide +kernel
theorem dX11_remember_173 : decode cX11_remember 173 = .ok (.iload_n 2, 1) := by decide +kernel
theorem dX11_remember_174 : decode cX11_remember 174 = .ok (.imul, 1) := by decide +kernel
theorem dX11_remember_175 : decode cX11_remember 175 = .ok (.iload_n 3, 1) := by decide +kernel
theorem dX11_remember_176 : decode cX11_remember 176 = .ok (.iadd, 1) := by decide +kernel
theorem dX11_remember_177 : decode cX11_remember 177 = .ok (.aload_n 0, 1) := by decide +kernel
theorem dX11_remember_178 : decode cX11_remember 178 = .ok (.iload_n 1, 1) := by decide +kernel
theorem dX11_remember_179 : decode cX11_remember 179 = .ok (.aload_n 0, 1) := by decide +kernel
theorem dX11_remember_180 : decode cX11_remember 180 = .ok (.getfield 44, 3) := by decide +kernel
theorem dX11_remember_183 : decode cX11_remember 183 = .ok (.bipush 40, 2) := by decide +kernel
theorem dX11_remember_185 : decode cX11_remember 185 = .ok (.iload_n 2, 1) := by decide +kernel
theorem dX11_remember_186 : decode cX11_remember 186 = .ok (.imul, 1) := by decide +kernel
theorem dX11_remember_187 : decode cX11_remember 187 = .ok (.iload_n 3, 1) := by decide +kernel
theorem dX11_remember_188 : decode cX11_remember 188 = .ok (.iadd, 1) := by decide +kernel
theorem dX11_remember_189 : decode cX11_remember 189 = .ok (.iaload, 1) := by decide +kernel
theorem dX11_remember_190 : decode cX11_remember 190 = .ok (.aload_n 0, 1) := by decide +kernel
theorem dX11_remember_191 : decode cX11_remember 191 = .ok (.getfield 47, 3) := by decide +kernel
theorem dX11_remember_194 : decode cX11_remember 194 = .ok (.bipush 40, 2) := by decide +kernel
theorem dX11_remember_196 : decode cX11_remember 196 = .ok (.iload_n 2, 1) := by decide +kernel
theorem dX11_remember_197 : decode cX11_remember 197 = .ok (.imul, 1) := by decide +kernel
theorem dX11_remember_198 : decode cX11_remember 198 = .ok (.iload_n 3, 1) := by decide +kernel
theorem dX11_remember_199 : decode cX11_remember 199 = .ok (.iadd, 1) := by decide +kernel
theorem dX11_remember_200 : decode cX11_remember 200 = .ok (.iaload, 1) := by decide +kernel
theorem dX11_remember_201 : decode cX11_remember 201 = .ok (.invokevirtual 204, 3) := by decide +kernel
theorem dX11_remember_204 : decode cX11_remember 204 = .ok (.bastore, 1) := by decide +kernel
theorem dX11_remember_205 : decode cX11_remember 205 = .ok (.iinc 3 1, 3) := by decide +kernel
theorem dX11_remember_208 : decode cX11_remember 208 = .ok (.goto (-59), 3) := by decide +kernel
theorem dX11_remember_211 : decode cX11_remember 211 = .ok (.iinc 2 1, 3) := by decide +kernel
theorem dX11_remember_214 : decode cX11_remember 214 = .ok (.goto (-142), 3) := by decide +kernel
theorem dX11_remember_217 : decode cX11_remember 217 = .ok (.return_, 1) := by decide +kernel
theorem dX11_forgetNew_0 : decode cX11_forgetNew 0 = .ok (.aload_n 0, 1) := by decide +kernel
theorem dX11_forgetNew_1 : decode cX11_forgetNew 1 = .ok (.getfield 41, 3) := by decide +kernel
theorem dX11_forgetNew_4 : decode cX11_forgetNew 4 = .ok (.iload_n 1, 1) := by decide +kernel
theorem dX11_forgetNew_5 : decode cX11_forgetNew 5 = .ok (.aload_n 0, 1) := by decide +kernel
theorem dX11_forgetNew_6 : decode cX11_forgetNew 6 = .ok (.getfield 191, 3) := by decide +kernel
theorem dX11_forgetNew_9 : decode cX11_forgetNew 9 = .ok (.iastore, 1) := by decide +kernel
theorem dX11_forgetNew_10 : decode cX11_forgetNew 10 = .ok (.aload_n 0, 1) := by decide +kernel
theorem dX11_forgetNew_11 : decode cX11_forgetNew 11 = .ok (.getfield 7, 3) := by decide +kernel
theorem dX11_forgetNew_14 : decode cX11_forgetNew 14 = .ok (.iload_n 1, 1) := by decide +kernel
theorem dX11_forgetNew_15 : decode cX11_forgetNew 15 = .ok (.aload_n 0, 1) := by decide +kernel
theorem dX11_forgetNew_16 : decode cX11_forgetNew 16 = .ok (.getfield 194, 3) := by decide +kernel
theorem dX11_forgetNew_19 : decode cX11_forgetNew 19 = .ok (.iastore, 1) := by decide +kernel
theorem dX11_forgetNew_20 : decode cX11_forgetNew 20 = .ok (.iconst 0, 1) := by decide +kernel
theorem dX11_forgetNew_21 : decode cX11_forgetNew 21 = .ok (.istore_n 2, 1) := by decide +kernel
theorem dX11_forgetNew_22 : decode cX11_forgetNew 22 = .ok (.iload_n 2, 1) := by decide +kernel
theorem dX11_forgetNew_23 : decode cX11_forgetNew 23 = .ok (.aload_n 0, 1) := by decide +kernel
theorem dX11_forgetNew_24 : decode cX11_forgetNew 24 = .ok (.getfield 191, 3) := by decide +kernel
theorem dX11_forgetNew_27 : decode cX11_forgetNew 27 = .ok (.if_icmp .ge 43, 3) := by decide +kernel
theorem dX11_forgetNew_30 : decode cX11_forgetNew 30 = .ok (.aload_n 0, 1) := by decide +kernel
theorem dX11_forgetNew_31 : decode cX11_forgetNew 31 = .ok (.getfield 44, 3) := by decide +kernel
theorem dX11_forgetNew_34 : decode cX11_forgetNew 34 = .ok (.bipush 40, 2) := by decide +kernel
theorem dX11_forgetNew_36 : decode cX11_forgetNew 36 = .ok (.iload_n 1, 1) := by decide +kernel
theorem dX11_forgetNew_37 : decode cX11_forgetNew 37 = .ok (.imul, 1) := by decide +kernel
theorem dX11_forgetNew_38 : decode cX11_forgetNew 38 = .ok (.iload_n 2, 1) := by decide +kernel
theorem dX11_forgetNew_39 : decode cX11_forgetNew 39 = .ok (.iadd, 1) := by decide +kernel
theorem dX11_forgetNew_40 : decode cX11_forgetNew 40 = .ok (.aload_n 0, 1) := by decide +kernel
theorem dX11_forgetNew_41 : decode cX11_forgetNew 41 = .ok (.getfield 86, 3) := by decide +kernel
theorem dX11_forgetNew_44 : decode cX11_forgetNew 44 = .ok (.iload_n 2, 1) := by decide +kernel
theorem dX11_forgetNew_45 : decode cX11_forgetNew 45 = .ok (.iaload, 1) := by decide +kernel
theorem dX11_forgetNew_46 : decode cX11_forgetNew 46 = .ok (.iastore, 1) := by decide +kernel
theorem dX11_forgetNew_47 : decode cX11_forgetNew 47 = .ok (.aload_n 0, 1) := by decide +kernel
theorem dX11_forgetNew_48 : decode cX11_forgetNew 48 = .ok (.getfield 47, 3) := by decide +kernel
theorem dX11_forgetNew_51 : decode cX11_forgetNew 51 = .ok (.bipush 40, 2) := by decide +kernel
theorem dX11_forgetNew_53 : decode cX11_forgetNew 53 = .ok (.iload_n 1, 1) := by decide +kernel
theorem dX11_forgetNew_54 : decode cX11_forgetNew 54 = .ok (.imul, 1) := by decide +kernel
theorem dX11_forgetNew_55 : decode cX11_forgetNew 55 = .ok (.iload_n 2, 1) := by decide +kernel
theorem dX11_forgetNew_56 : decode cX11_forgetNew 56 = .ok (.iadd, 1) := by decide +kernel
theorem dX11_forgetNew_57 : decode cX11_forgetNew 57 = .ok (.aload_n 0, 1) := by decide +kernel
theorem dX11_forgetNew_58 : decode cX11_forgetNew 58 = .ok (.getfield 89, 3) := by decide +kernel
theorem dX11_forgetNew_61 : decode cX11_forgetNew 61 = .ok (.iload_n 2, 1) := by decide +kernel
theorem dX11_forgetNew_62 : decode cX11_forgetNew 62 = .ok (.iaload, 1) := by decide +kernel
theorem dX11_forgetNew_63 : decode cX11_forgetNew 63 = .ok (.iastore, 1) := by decide +kernel
theorem dX11_forgetNew_64 : decode cX11_forgetNew 64 = .ok (.iinc 2 1, 3) := by decide +kernel
theorem dX11_forgetNew_67 : decode cX11_forgetNew 67 = .ok (.goto (-45), 3) := by decide +kernel
theorem dX11_forgetNew_70 : decode cX11_forgetNew 70 = .ok (.return_, 1) := by decide +kernel
theorem dX11_arePlaces_0 : decode cX11_arePlaces 0 = .ok (.iconst 0, 1) := by decide +kernel
theorem dX11_arePlaces_1 : decode cX11_arePlaces 1 = .ok (.istore_n 2, 1) := by decide +kernel
theorem dX11_arePlaces_2 : decode cX11_arePlaces 2 = .ok (.iload_n 2, 1) := by decide +kernel
theorem dX11_arePlaces_3 : decode cX11_arePlaces 3 = .ok (.aload_n 0, 1) := by decide +kernel
theorem dX11_arePlaces_4 : decode cX11_arePlaces 4 = .ok (.getfield 41, 3) := by decide +kernel
theorem dX11_arePlaces_7 : decode cX11_arePlaces 7 = .ok (.iload_n 1, 1) := by decide +kernel
theorem dX11_arePlaces_8 : decode cX11_arePlaces 8 = .ok (.iaload, 1) := by decide +kernel
theorem dX11_arePlaces_9 : decode cX11_arePlaces 9 = .ok (.if_icmp .ge 60, 3) := by decide +kernel
theorem dX11_arePlaces_12 : decode cX11_arePlaces 12 = .ok (.aload_n 0, 1) := by decide +kernel
theorem dX11_arePlaces_13 : decode cX11_arePlaces 13 = .ok (.getfield 44, 3) := by decide +kernel
theorem dX11_arePlaces_16 : decode cX11_arePlaces 16 = .ok (.bipush 40, 2) := by decide +kernel
theorem dX11_arePlaces_18 : decode cX11_arePlaces 18 = .ok (.iload_n 1, 1) := by decide +kernel
theorem dX11_arePlaces_19 : decode cX11_arePlaces 19 = .ok (.imul, 1) := by decide +kernel
theorem dX11_arePlaces_20 : decode cX11_arePlaces 20 = .ok (.iload_n 2, 1) := by decide +kernel
theorem dX11_arePlaces_21 : decode cX11_arePlaces 21 = .ok (.iadd, 1) := by decide +kernel
theorem dX11_arePlaces_22 : decode cX11_arePlaces 22 = .ok (.iaload, 1) := by decide +kernel
theorem dX11_arePlaces_23 : decode cX11_arePlaces 23 = .ok (.istore_n 3, 1) := by decide +kernel
theorem dX11_arePlaces_24 : decode cX11_arePlaces 24 = .ok (.aload_n 0, 1) := by decide +kernel
theorem dX11_arePlaces_25 : decode cX11_arePlaces 25 = .ok (.getfield 47, 3) := by decide +kernel
theorem dX11_arePlaces_28 : decode cX11_arePlaces 28 = .ok (.bipush 40, 2) := by decide +kernel
theorem dX11_arePlaces_30 : decode cX11_arePlaces 30 = .ok (.iload_n 1, 1) := by decide +kernel
theorem dX11_arePlaces_31 : decode cX11_arePlaces 31 = .ok (.imul, 1) := by decide +kernel
theorem dX11_arePlaces_32 : decode cX11_arePlaces 32 = .ok (.iload_n 2, 1) := by decide +kernel
theorem dX11_arePlaces_33 : decode cX11_arePlaces 33 = .ok (.iadd, 1) := by decide +kernel
theorem dX11_arePlaces_34 : decode cX11_arePlaces 34 = .ok (.iaload, 1) := by decide +kernel
theorem dX11_arePlaces_35 : decode cX11_arePlaces 35 = .ok (.istore 4, 2) := by decide +kernel
theorem dX11_arePlaces_37 : decode cX11_arePlaces 37 = .ok (.iload_n 3, 1) := by decide +kernel
theorem dX11_arePlaces_38 : decode cX11_arePlaces 38 = .ok (.ifCond .lt 23, 3) := by decide +kernel
theorem dX11_arePlaces_41 : decode cX11_arePlaces 41 = .ok (.iload_n 3, 1) := by decide +kernel
theorem dX11_arePlaces_42 : decode cX11_arePlaces 42 = .ok (.sipush 1000, 3) := by decide +kernel
theorem dX11_arePlaces_45 : decode cX11_arePlaces 45 = .ok (.if_icmp .gt 16, 3) := by decide +kernel
theorem dX11_arePlaces_48 : decode cX11_arePlaces 48 = .ok (.iload 4, 2) := by decide +kernel
theorem dX11_arePlaces_50 : decode cX11_arePlaces 50 = .ok (.ifCond .lt 11, 3) := by decide +kernel
theorem dX11_arePlaces_53 : decode cX11_arePlaces 53 = .ok (.iload 4, 2) := by decide +kernel
theorem dX11_arePlaces_55 : decode cX11_arePlaces 55 = .ok (.sipush 1000, 3) := by decide +kernel
theorem dX11_arePlaces_58 : decode cX11_arePlaces 58 = .ok (.if_icmp .le 5, 3) := by decide +kernel
theorem dX11_arePlaces_61 : decode cX11_arePlaces 61 = .ok (.iconst 0, 1) := by decide +kernel
theorem dX11_arePlaces_62 : decode cX11_arePlaces 62 = .ok (.ireturn, 1) := by decide +kernel
theorem dX11_arePlaces_63 : decode cX11_arePlaces 63 = .ok (.iinc 2 1, 3) := by decide +kernel
theorem dX11_arePlaces_66 : decode cX11_arePlaces 66 = .ok (.goto (-64), 3) := by decide +kernel
theorem dX11_arePlaces_69 : decode cX11_arePlaces 69 = .ok (.iconst 1, 1) := by decide +kernel
theorem dX11_arePlaces_70 : decode cX11_arePlaces 70 = .ok (.ireturn, 1) := by decide +kernel
theorem dX11_isLawful_0 : decode cX11_isLawful 0 = .ok (.aload_n 0, 1) := by decide +kernel
theorem dX11_isLawful_1 : decode cX11_isLawful 1 = .ok (.iload_n 1, 1) := by decide +kernel
theorem dX11_isLawful_2 : decode cX11_isLawful 2 = .ok (.invokevirtual 207, 3) := by decide +kernel
theorem dX11_isLawful_5 : decode cX11_isLawful 5 = .ok (.ifCond .eq 11, 3) := by decide +kernel
theorem dX11_isLawful_8 : decode cX11_isLawful 8 = .ok (.aload_n 0, 1) := by decide +kernel
theorem dX11_isLawful_9 : decode cX11_isLawful 9 = .ok (.iload_n 1, 1) := by decide +kernel
theorem dX11_isLawful_10 : decode cX11_isLawful 10 = .ok (.invokevirtual 210, 3) := by decide +kernel
theorem dX11_isLawful_13 : decode cX11_isLawful 13 = .ok (.ifCond .ne 5, 3) := by decide +kernel
theorem dX11_isLawful_16 : decode cX11_isLawful 16 = .ok (.iconst 0, 1) := by decide +kernel
theorem dX11_isLawful_17 : decode cX11_isLawful 17 = .ok (.ireturn, 1) := by decide +kernel
theorem dX11_isLawful_18 : decode cX11_isLawful 18 = .ok (.iconst 0, 1) := by decide +kernel
theorem dX11_isLawful_19 : decode cX11_isLawful 19 = .ok (.istore 4, 2) := by decide +kernel
theorem dX11_isLawful_21 : decode cX11_isLawful 21 = .ok (.iload 4, 2) := by decide +kernel
theorem dX11_isLawful_23 : decode cX11_isLawful 23 = .ok (.aload_n 0, 1) := by decide +kernel
theorem dX11_isLawful_24 : decode cX11_isLawful 24 = .ok (.getfield 130, 3) := by decide +kernel
theorem dX11_isLawful_27 : decode cX11_isLawful 27 = .ok (.if_icmp .ge 38, 3) := by decide +kernel
theorem dX11_isLawful_30 : decode cX11_isLawful 30 = .ok (.iload 4, 2) := by decide +kernel
theorem dX11_isLawful_32 : decode cX11_isLawful 32 = .ok (.iload_n 1, 1) := by decide +kernel
theorem dX11_isLawful_33 : decode cX11_isLawful 33 = .ok (.if_icmp .eq 26, 3) := by decide +kernel
theorem dX11_isLawful_36 : decode cX11_isLawful 36 = .ok (.aload_n 0, 1) := by decide +kernel
theorem dX11_isLawful_37 : decode cX11_isLawful 37 = .ok (.iload 4, 2) := by decide +kernel
theorem dX11_isLawful_39 : decode cX11_isLawful 39 = .ok (.invokevirtual 197, 3) := by decide +kernel
theorem dX11_isLawful_42 : decode cX11_isLawful 42 = .ok (.ifCond .eq 17, 3) := by decide +kernel
theorem dX11_isLawful_45 : decode cX11_isLawful 45 = .ok (.aload_n 0, 1) := by decide +kernel
theorem dX11_isLawful_46 : decode cX11_isLawful 46 = .ok (.iload_n 1, 1) := by decide +kernel
theorem dX11_isLawful_47 : decode cX11_isLawful 47 = .ok (.iload 4, 2) := by decide +kernel
theorem dX11_isLawful_49 : decode cX11_isLawful 49 = .ok (.iload_n 2, 1) := by decide +kernel
theorem dX11_isLawful_50 : decode cX11_isLawful 50 = .ok (.iload_n 3, 1) := by decide +kernel
theorem dX11_isLawful_51 : decode cX11_isLawful 51 = .ok (.invokevirtual 213, 3) := by decide +kernel
theorem dX11_isLawful_54 : decode cX11_isLawful 54 = .ok (.ifCond .ne 5, 3) := by decide +kernel
theorem dX11_isLawful_57 : decode cX11_isLawful 57 = .ok (.iconst 0, 1) := by decide +kernel
theorem dX11_isLawful_58 : decode cX11_isLawful 58 = .ok (.ireturn, 1) := by decide +kernel
theorem dX11_isLawful_59 : decode cX11_isLawful 59 = .ok (.iinc 4 1, 3) := by decide +kernel
theorem dX11_isLawful_62 : decode cX11_isLawful 62 = .ok (.goto (-41), 3) := by decide +kernel
theorem dX11_isLawful_65 : decode cX11_isLawful 65 = .ok (.iconst 1, 1) := by decide +kernel
theorem dX11_isLawful_66 : decode cX11_isLawful 66 = .ok (.ireturn, 1) := by decide +kernel
theorem dX11_isLawfulTo_0 : decode cX11_isLawfulTo 0 = .ok (.aload_n 0, 1) := by decide +kernel
theorem dX11_isLawfulTo_1 : decode cX11_isLawfulTo 1 = .ok (.iload_n 1, 1) := by decide +kernel
theorem dX11_isLawfulTo_2 : decode cX11_isLawfulTo 2 = .ok (.iload_n 2, 1) := by decide +kernel
theorem dX11_isLawfulTo_3 : decode cX11_isLawfulTo 3 = .ok (.invokevirtual 200, 3) := by decide +kernel
theorem dX11_isLawfulTo_6 : decode cX11_isLawfulTo 6 = .ok (.aload_n 0, 1) := by decide +kernel
theorem dX11_isLawfulTo_7 : decode cX11_isLawfulTo 7 = .ok (.getfield 92, 3) := by decide +kernel
theorem dX11_isLawfulTo_10 : decode cX11_isLawfulTo 10 = .ok (.iload_n 2, 1) := by decide +kernel
theorem dX11_isLawfulTo_11 : decode cX11_isLawfulTo 11 = .ok (.baload, 1) := by decide +kernel
theorem dX11_isLawfulTo_12 : decode cX11_isLawfulTo 12 = .ok (.if_icmp .eq 5, 3) := by decide +kernel
theorem dX11_isLawfulTo_15 : decode cX11_isLawfulTo 15 = .ok (.iconst 0, 1) := by decide +kernel
theorem dX11_isLawfulTo_16 : decode cX11_isLawfulTo 16 = .ok (.ireturn, 1) := by decide +kernel
theorem dX11_isLawfulTo_17 : decode cX11_isLawfulTo 17 = .ok (.aload_n 0, 1) := by decide +kernel
theorem dX11_isLawfulTo_18 : decode cX11_isLawfulTo 18 = .ok (.iload_n 2, 1) := by decide +kernel
theorem dX11_isLawfulTo_19 : decode cX11_isLawfulTo 19 = .ok (.invokevirtual 161, 3) := by decide +kernel
theorem dX11_isLawfulTo_22 : decode cX11_isLawfulTo 22 = .ok (.ifCond .eq 37, 3) := by decide +kernel
theorem dX11_isLawfulTo_25 : decode cX11_isLawfulTo 25 = .ok (.aload_n 0, 1) := by decide +kernel
theorem dX11_isLawfulTo_26 : decode cX11_isLawfulTo 26 = .ok (.iload_n 2, 1) := by decide +kernel
theorem dX11_isLawfulTo_27 : decode cX11_isLawfulTo 27 = .ok (.aload_n 0, 1) := by decide +kernel
theorem dX11_isLawfulTo_28 : decode cX11_isLawfulTo 28 = .ok (.getfield 44, 3) := by decide +kernel
theorem dX11_isLawfulTo_31 : decode cX11_isLawfulTo 31 = .ok (.bipush 40, 2) := by decide +kernel
theorem dX11_isLawfulTo_33 : decode cX11_isLawfulTo 33 = .ok (.iload_n 1, 1) := by decide +kernel
theorem dX11_isLawfulTo_34 : decode cX11_isLawfulTo 34 = .ok (.imul, 1) := by decide +kernel
theorem dX11_isLawfulTo_35 : decode cX11_isLawfulTo 35 = .ok (.iaload, 1) := by decide +kernel
theorem dX11_isLawfulTo_36 : decode cX11_isLawfulTo 36 = .ok (.aload_n 0, 1) := by decide +kernel
theorem dX11_isLawfulTo_37 : decode cX11_isLawfulTo 37 = .ok (.getfield 47, 3) := by decide +kernel
theorem dX11_isLawfulTo_40 : decode cX11_isLawfulTo 40 = .ok (.bipush 40, 2) := by decide +kernel
theorem dX11_isLawfulTo_42 : decode cX11_isLawfulTo 42 = .ok (.iload_n 1, 1) := by decide +kernel
theorem dX11_isLawfulTo_43 : decode cX11_isLawfulTo 43 = .ok (.imul, 1) := by decide +kernel
theorem dX11_isLawfulTo_44 : decode cX11_isLawfulTo 44 = .ok (.iaload, 1) := by decide +kernel
theorem dX11_isLawfulTo_45 : decode cX11_isLawfulTo 45 = .ok (.invokevirtual 204, 3) := by decide +kernel
theorem dX11_isLawfulTo_48 : decode cX11_isLawfulTo 48 = .ok (.aload_n 0, 1) := by decide +kernel
theorem dX11_isLawfulTo_49 : decode cX11_isLawfulTo 49 = .ok (.getfield 95, 3) := by decide +kernel
theorem dX11_isLawfulTo_52 : decode cX11_isLawfulTo 52 = .ok (.iload_n 2, 1) := by decide +kernel
theorem dX11_isLawfulTo_53 : decode cX11_isLawfulTo 53 = .ok (.baload, 1) := by decide +kernel
theorem dX11_isLawfulTo_54 : decode cX11_isLawfulTo 54 = .ok (.if_icmp .eq 5, 3) := by decide +kernel
theorem dX11_isLawfulTo_57 : decode cX11_isLawfulTo 57 = .ok (.iconst 0, 1) := by decide +kernel
theorem dX11_isLawfulTo_58 : decode cX11_isLawfulTo 58 = .ok (.ireturn, 1) := by decide +kernel
theorem dX11_isLawfulTo_59 : decode cX11_isLawfulTo 59 = .ok (.iconst 0, 1) := by decide +kernel
theorem dX11_isLawfulTo_60 : decode cX11_isLawfulTo 60 = .ok (.istore 5, 2) := by decide +kernel
theorem dX11_isLawfulTo_62 : decode cX11_isLawfulTo 62 = .ok (.iload 5, 2) := by decide +kernel
theorem dX11_isLawfulTo_64 : decode cX11_isLawfulTo 64 = .ok (.aload_n 0, 1) := by decide +kernel
theorem dX11_isLawfulTo_65 : decode cX11_isLawfulTo 65 = .ok (.getfield 41, 3) := by decide +kernel
theorem dX11_isLawfulTo_68 : decode cX11_isLawfulTo 68 = .ok (.iload_n 2, 1) := by decide +kernel
theorem dX11_isLawfulTo_69 : decode cX11_isLawfulTo 69 = .ok (.iaload, 1) := by decide +kernel
theorem dX11_isLawfulTo_70 : decode cX11_isLawfulTo 70 = .ok (.if_icmp .ge 121, 3) := by decide +kernel
theorem dX11_isLawfulTo_73 : decode cX11_isLawfulTo 73 = .ok (.aload_n 0, 1) := by decide +kernel
theorem dX11_isLawfulTo_74 : decode cX11_isLawfulTo 74 = .ok (.getfield 44, 3) := by decide +kernel
theorem dX11_isLawfulTo_77 : decode cX11_isLawfulTo 77 = .ok (.bipush 40, 2) := by decide +kernel
theorem dX11_isLawfulTo_79 : decode cX11_isLawfulTo 79 = .ok (.iload_n 2, 1) := by decide +kernel
theorem dX11_isLawfulTo_80 : decode cX11_isLawfulTo 80 = .ok (.imul, 1) := by decide +kernel
theorem dX11_isLawfulTo_81 : decode cX11_isLawfulTo 81 = .ok (.iload 5, 2) := by decide +kernel
theorem dX11_isLawfulTo_83 : decode cX11_isLawfulTo 83 = .ok (.iadd, 1) := by decide +kernel
theorem dX11_isLawfulTo_84 : decode cX11_isLawfulTo 84 = .ok (.iaload, 1) := by decide +kernel
theorem dX11_isLawfulTo_85 : decode cX11_isLawfulTo 85 = .ok (.istore 6, 2) := by decide +kernel
theorem dX11_isLawfulTo_87 : decode cX11_isLawfulTo 87 = .ok (.aload_n 0, 1) := by decide +kernel
theorem dX11_isLawfulTo_88 : decode cX11_isLawfulTo 88 = .ok (.getfield 47, 3) := by decide +kernel
theorem dX11_isLawfulTo_91 : decode cX11_isLawfulTo 91 = .ok (.bipush 40, 2) := by decide +kernel
theorem dX11_isLawfulTo_93 : decode cX11_isLawfulTo 93 = .ok (.iload_n 2, 1) := by decide +kernel
theorem dX11_isLawfulTo_94 : decode cX11_isLawfulTo 94 = .ok (.imul, 1) := by decide +kernel
theorem dX11_isLawfulTo_95 : decode cX11_isLawfulTo 95 = .ok (.iload 5, 2) := by decide +kernel
theorem dX11_isLawfulTo_97 : decode cX11_isLawfulTo 97 = .ok (.iadd, 1) := by decide +kernel
theorem dX11_isLawfulTo_98 : decode cX11_isLawfulTo 98 = .ok (.iaload, 1) := by decide +kernel
theorem dX11_isLawfulTo_99 : decode cX11_isLawfulTo 99 = .ok (.istore 7, 2) := by decide +kernel
theorem dX11_isLawfulTo_101 : decode cX11_isLawfulTo 101 = .ok (.aload_n 0, 1) := by decide +kernel
theorem dX11_isLawfulTo_102 : decode cX11_isLawfulTo 102 = .ok (.iload_n 1, 1) := by decide +kernel
theorem dX11_isLawfulTo_103 : decode cX11_isLawfulTo 103 = .ok (.invokevirtual 161, 3) := by decide +kernel
theorem dX11_isLawfulTo_106 : decode cX11_isLawfulTo 106 = .ok (.ifCond .eq 29, 3) := by decide +kernel
theorem dX11_isLawfulTo_109 : decode cX11_isLawfulTo 109 = .ok (.aload_n 0, 1) := by decide +kernel
theorem dX11_isLawfulTo_110 : decode cX11_isLawfulTo 110 = .ok (.iload_n 1, 1) := by decide +kernel
theorem dX11_isLawfulTo_111 : decode cX11_isLawfulTo 111 = .ok (.iload 6, 2) := by decide +kernel
theorem dX11_isLawfulTo_113 : decode cX11_isLawfulTo 113 = .ok (.iload 7, 2) := by decide +kernel
theorem dX11_isLawfulTo_115 : decode cX11_isLawfulTo 115 = .ok (.invokevirtual 204, 3) := by decide +kernel
theorem dX11_isLawfulTo_118 : decode cX11_isLawfulTo 118 = .ok (.aload_n 0, 1) := by decide +kernel
theorem dX11_isLawfulTo_119 : decode cX11_isLawfulTo 119 = .ok (.getfield 98, 3) := by decide +kernel
theorem dX11_isLawfulTo_122 : decode cX11_isLawfulTo 122 = .ok (.bipush 40, 2) := by decide +kernel
theorem dX11_isLawfulTo_124 : decode cX11_isLawfulTo 124 = .ok (.iload_n 2, 1) := by decide +kernel
theorem dX11_isLawfulTo_125 : decode cX11_isLawfulTo 125 = .ok (.imul, 1) := by decide +kernel
theorem dX11_isLawfulTo_126 : decode cX11_isLawfulTo 126 = .ok (.iload 5, 2) := by decide +kernel
theorem dX11_isLawfulTo_128 : decode cX11_isLawfulTo 128 = .ok (.iadd, 1) := by decide +kernel
theorem dX11_isLawfulTo_129 : decode cX11_isLawfulTo 129 = .ok (.baload, 1) := by decide +kernel
theorem dX11_isLawfulTo_130 : decode cX11_isLawfulTo 130 = .ok (.if_icmp .eq 5, 3) := by decide +kernel
theorem dX11_isLawfulTo_133 : decode cX11_isLawfulTo 133 = .ok (.iconst 0, 1) := by decide +kernel
theorem dX11_isLawfulTo_134 : decode cX11_isLawfulTo 134 = .ok (.ireturn, 1) := by decide +kernel
theorem dX11_isLawfulTo_135 : decode cX11_isLawfulTo 135 = .ok (.aload_n 0, 1) := by decide +kernel
theorem dX11_isLawfulTo_136 : decode cX11_isLawfulTo 136 = .ok (.getfield 7, 3) := by decide +kernel
theorem dX11_isLawfulTo_139 : decode cX11_isLawfulTo 139 = .ok (.iload_n 1, 1) := by decide +kernel
theorem dX11_isLawfulTo_140 : decode cX11_isLawfulTo 140 = .ok (.iaload, 1) := by decide +kernel
theorem dX11_isLawfulTo_141 : decode cX11_isLawfulTo 141 = .ok (.ifCond .eq 44, 3) := by decide +kernel
theorem dX11_isLawfulTo_144 : decode cX11_isLawfulTo 144 = .ok (.iload_n 3, 1) := by decide +kernel
theorem dX11_isLawfulTo_145 : decode cX11_isLawfulTo 145 = .ok (.iconst 5, 1) := by decide +kernel
theorem dX11_isLawfulTo_146 : decode cX11_isLawfulTo 146 = .ok (.if_icmp .eq 39, 3) := by decide +kernel
theorem dX11_isLawfulTo_149 : decode cX11_isLawfulTo 149 = .ok (.iload 4, 2) := by decide +kernel
theorem dX11_isLawfulTo_151 : decode cX11_isLawfulTo 151 = .ok (.iconst (-1), 1) := by decide +kernel
theorem dX11_isLawfulTo_152 : decode cX11_isLawfulTo 152 = .ok (.if_icmp .eq 19, 3) := by decide +kernel
theorem dX11_isLawfulTo_155 : decode cX11_isLawfulTo 155 = .ok (.aload_n 0, 1) := by decide +kernel
theorem dX11_isLawfulTo_156 : decode cX11_isLawfulTo 156 = .ok (.iload 4, 2) := by decide +kernel
theorem dX11_isLawfulTo_158 : decode cX11_isLawfulTo 158 = .ok (.iload 6, 2) := by decide +kernel
theorem dX11_isLawfulTo_160 : decode cX11_isLawfulTo 160 = .ok (.iload 7, 2) := by decide +kernel
theorem dX11_isLawfulTo_162 : decode cX11_isLawfulTo 162 = .ok (.invokevirtual 217, 3) := by decide +kernel
theorem dX11_isLawfulTo_165 : decode cX11_isLawfulTo 165 = .ok (.ifCond .eq 20, 3) := by decide +kernel
theorem dX11_isLawfulTo_168 : decode cX11_isLawfulTo 168 = .ok (.goto 15, 3) := by decide +kernel
theorem dX11_isLawfulTo_171 : decode cX11_isLawfulTo 171 = .ok (.aload_n 0, 1) := by decide +kernel
theorem dX11_isLawfulTo_172 : decode cX11_isLawfulTo 172 = .ok (.iload_n 1, 1) := by decide +kernel
theorem dX11_isLawfulTo_173 : decode cX11_isLawfulTo 173 = .ok (.iload 6, 2) := by decide +kernel
theorem dX11_isLawfulTo_175 : decode cX11_isLawfulTo 175 = .ok (.iload 7, 2) := by decide +kernel
theorem dX11_isLawfulTo_177 : decode cX11_isLawfulTo 177 = .ok (.invokevirtual 220, 3) := by decide +kernel
theorem dX11_isLawfulTo_180 : decode cX11_isLawfulTo 180 = .ok (.ifCond .eq 5, 3) := by decide +kernel
theorem dX11_isLawfulTo_183 : decode cX11_isLawfulTo 183 = .ok (.iconst 0, 1) := by decide +kernel
theorem dX11_isLawfulTo_184 : decode cX11_isLawfulTo 184 = .ok (.ireturn, 1) := by decide +kernel
theorem dX11_isLawfulTo_185 : decode cX11_isLawfulTo 185 = .ok (.iinc 5 1, 3) := by decide +kernel
theorem dX11_isLawfulTo_188 : decode cX11_isLawfulTo 188 = .ok (.goto (-126), 3) := by decide +kernel
theorem dX11_isLawfulTo_191 : decode cX11_isLawfulTo 191 = .ok (.aload_n 0, 1) := by decide +kernel
theorem dX11_isLawfulTo_192 : decode cX11_isLawfulTo 192 = .ok (.getfield 7, 3) := by decide +kernel
theorem dX11_isLawfulTo_195 : decode cX11_isLawfulTo 195 = .ok (.iload_n 1, 1) := by decide +kernel
theorem dX11_isLawfulTo_196 : decode cX11_isLawfulTo 196 = .ok (.iaload, 1) := by decide +kernel
theorem dX11_isLawfulTo_197 : decode cX11_isLawfulTo 197 = .ok (.ifCond .ne 12, 3) := by decide +kernel
theorem dX11_isLawfulTo_200 : decode cX11_isLawfulTo 200 = .ok (.aload_n 0, 1) := by decide +kernel
theorem dX11_isLawfulTo_201 : decode cX11_isLawfulTo 201 = .ok (.iload_n 1, 1) := by decide +kernel
theorem dX11_isLawfulTo_202 : decode cX11_isLawfulTo 202 = .ok (.iload_n 2, 1) := by decide +kernel
theorem dX11_isLawfulTo_203 : decode cX11_isLawfulTo 203 = .ok (.invokevirtual 223, 3) := by decide +kernel
theorem dX11_isLawfulTo_206 : decode cX11_isLawfulTo 206 = .ok (.ifCond .eq 7, 3) := by decide +kernel
theorem dX11_isLawfulTo_209 : decode cX11_isLawfulTo 209 = .ok (.iconst 1, 1) := by decide +kernel
theorem dX11_isLawfulTo_210 : decode cX11_isLawfulTo 210 = .ok (.goto 4, 3) := by decide +kernel
theorem dX11_isLawfulTo_213 : decode cX11_isLawfulTo 213 = .ok (.iconst 0, 1) := by decide +kernel
theorem dX11_isLawfulTo_214 : decode cX11_isLawfulTo 214 = .ok (.ireturn, 1) := by decide +kernel
theorem dX11_isThree_0 : decode cX11_isThree 0 = .ok (.aload_n 0, 1) := by decide +kernel
theorem dX11_isThree_1 : decode cX11_isThree 1 = .ok (.getfield 101, 3) := by decide +kernel
theorem dX11_isThree_4 : decode cX11_isThree 4 = .ok (.iconst 0, 1) := by decide +kernel
theorem dX11_isThree_5 : decode cX11_isThree 5 = .ok (.iload_n 1, 1) := by decide +kernel
theorem dX11_isThree_6 : decode cX11_isThree 6 = .ok (.iastore, 1) := by decide +kernel
theorem dX11_isThree_7 : decode cX11_isThree 7 = .ok (.aload_n 0, 1) := by decide +kernel
theorem dX11_isThree_8 : decode cX11_isThree 8 = .ok (.getfield 101, 3) := by decide +kernel
theorem dX11_isThree_11 : decode cX11_isThree 11 = .ok (.iconst 1, 1) := by decide +kernel
theorem dX11_isThree_12 : decode cX11_isThree 12 = .ok (.iload_n 2, 1) := by decide +kernel
theorem dX11_isThree_13 : decode cX11_isThree 13 = .ok (.iastore, 1) := by decide +kernel
theorem dX11_isThree_14 : decode cX11_isThree 14 = .ok (.aload_n 0, 1) := by decide +kernel
theorem dX11_isThree_15 : decode cX11_isThree 15 = .ok (.getfield 101, 3) := by decide +kernel
theorem dX11_isThree_18 : decode cX11_isThree 18 = .ok (.iconst 2, 1) := by decide +kernel
theorem dX11_isThree_19 : decode cX11_isThree 19 = .ok (.iload_n 3, 1) := by decide +kernel
theorem dX11_isThree_20 : decode cX11_isThree 20 = .ok (.iastore, 1) := by decide +kernel
theorem dX11_isThree_21 : decode cX11_isThree 21 = .ok (.aload_n 0, 1) := by decide +kernel
theorem dX11_isThree_22 : decode cX11_isThree 22 = .ok (.getfield 101, 3) := by decide +kernel
theorem dX11_isThree_25 : decode cX11_isThree 25 = .ok (.iconst 3, 1) := by decide +kernel
theorem dX11_isThree_26 : decode cX11_isThree 26 = .ok (.iload 4, 2) := by decide +kernel
theorem dX11_isThree_28 : decode cX11_isThree 28 = .ok (.iastore, 1) := by decide +kernel
theorem dX11_isThree_29 : decode cX11_isThree 29 = .ok (.aload_n 0, 1) := by decide +kernel
theorem dX11_isThree_30 : decode cX11_isThree 30 = .ok (.getfield 101, 3) := by decide +kernel
theorem dX11_isThree_33 : decode cX11_isThree 33 = .ok (.iconst 4, 1) := by decide +kernel
theorem dX11_isThree_34 : decode cX11_isThree 34 = .ok (.aload_n 0, 1) := by decide +kernel
theorem dX11_isThree_35 : decode cX11_isThree 35 = .ok (.getfield 77, 3) := by decide +kernel
theorem dX11_isThree_38 : decode cX11_isThree 38 = .ok (.iload 5, 2) := by decide +kernel
theorem dX11_isThree_40 : decode cX11_isThree 40 = .ok (.iaload, 1) := by decide +kernel
theorem dX11_isThree_41 : decode cX11_isThree 41 = .ok (.iastore, 1) := by decide +kernel
theorem dX11_isThree_42 : decode cX11_isThree 42 = .ok (.aload_n 0, 1) := by decide +kernel
theorem dX11_isThree_43 : decode cX11_isThree 43 = .ok (.getfield 101, 3) := by decide +kernel
theorem dX11_isThree_46 : decode cX11_isThree 46 = .ok (.iconst 5, 1) := by decide +kernel
theorem dX11_isThree_47 : decode cX11_isThree 47 = .ok (.aload_n 0, 1) := by decide +kernel
theorem dX11_isThree_48 : decode cX11_isThree 48 = .ok (.getfield 80, 3) := by decide +kernel
theorem dX11_isThree_51 : decode cX11_isThree 51 = .ok (.iload 5, 2) := by decide +kernel
theorem dX11_isThree_53 : decode cX11_isThree 53 = .ok (.iaload, 1) := by decide +kernel
theorem dX11_isThree_54 : decode cX11_isThree 54 = .ok (.iastore, 1) := by decide +kernel
theorem dX11_isThree_55 : decode cX11_isThree 55 = .ok (.aload_n 0, 1) := by decide +kernel
theorem dX11_isThree_56 : decode cX11_isThree 56 = .ok (.getfield 101, 3) := by decide +kernel
theorem dX11_isThree_59 : decode cX11_isThree 59 = .ok (.iload 6, 2) := by decide +kernel
theorem dX11_isThree_61 : decode cX11_isThree 61 = .ok (.iload 7, 2) := by decide +kernel
theorem dX11_isThree_63 : decode cX11_isThree 63 = .ok (.invokestatic 226, 3) := by decide +kernel
theorem dX11_isThree_66 : decode cX11_isThree 66 = .ok (.ireturn, 1) := by decide +kernel
theorem dX11_isSweptBy_0 : decode cX11_isSweptBy 0 = .ok (.iload_n 1, 1) := by decide +kernel
theorem dX11_isSweptBy_1 : decode cX11_isSweptBy 1 = .ok (.ifCond .ne 12, 3) := by decide +kernel
theorem dX11_isSweptBy_4 : decode cX11_isSweptBy 4 = .ok (.aload_n 0, 1) := by decide +kernel
theorem dX11_isSweptBy_5 : decode cX11_isSweptBy 5 = .ok (.getfield 191, 3) := by decide +kernel
theorem dX11_isSweptBy_8 : decode cX11_isSweptBy 8 = .ok (.iconst 1, 1) := by decide +kernel
theorem dX11_isSweptBy_9 : decode cX11_isSweptBy 9 = .ok (.isub, 1) := by decide +kernel
theorem dX11_isSweptBy_10 : decode cX11_isSweptBy 10 = .ok (.goto 6, 3) := by decide +kernel
theorem dX11_isSweptBy_13 : decode cX11_isSweptBy 13 = .ok (.iload_n 1, 1) := by decide +kernel
theorem dX11_isSweptBy_14 : decode cX11_isSweptBy 14 = .ok (.iconst 1, 1) := by decide +kernel
theorem dX11_isSweptBy_15 : decode cX11_isSweptBy 15 = .ok (.isub, 1) := by decide +kernel
theorem dX11_isSweptBy_16 : decode cX11_isSweptBy 16 = .ok (.istore 4, 2) := by decide +kernel
theorem dX11_isSweptBy_18 : decode cX11_isSweptBy 18 = .ok (.iload_n 1, 1) := by decide +kernel
theorem dX11_isSweptBy_19 : decode cX11_isSweptBy 19 = .ok (.iconst 1, 1) := by decide +kernel
theorem dX11_isSweptBy_20 : decode cX11_isSweptBy 20 = .ok (.iadd, 1) := by decide +kernel
theorem dX11_isSweptBy_21 : decode cX11_isSweptBy 21 = .ok (.aload_n 0, 1) := by decide +kernel
theorem dX11_isSweptBy_22 : decode cX11_isSweptBy 22 = .ok (.getfield 191, 3) := by decide +kernel
theorem dX11_isSweptBy_25 : decode cX11_isSweptBy 25 = .ok (.if_icmp .ne 7, 3) := by decide +kernel
theorem dX11_isSweptBy_28 : decode cX11_isSweptBy 28 = .ok (.iconst 0, 1) := by decide +kernel
theorem dX11_isSweptBy_29 : decode cX11_isSweptBy 29 = .ok (.goto 6, 3) := by decide +kernel
theorem dX11_isSweptBy_32 : decode cX11_isSweptBy 32 = .ok (.iload_n 1, 1) := by decide +kernel
theorem dX11_isSweptBy_33 : decode cX11_isSweptBy 33 = .ok (.iconst 1, 1) := by decide +kernel
theorem dX11_isSweptBy_34 : decode cX11_isSweptBy 34 = .ok (.iadd, 1) := by decide +kernel
theorem dX11_isSweptBy_35 : decode cX11_isSweptBy 35 = .ok (.istore 5, 2) := by decide +kernel
theorem dX11_isSweptBy_37 : decode cX11_isSweptBy 37 = .ok (.iload_n 2, 1) := by decide +kernel
theorem dX11_isSweptBy_38 : decode cX11_isSweptBy 38 = .ok (.aload_n 0, 1) := by decide +kernel
theorem dX11_isSweptBy_39 : decode cX11_isSweptBy 39 = .ok (.getfield 86, 3) := by decide +kernel
theorem dX11_isSweptBy_42 : decode cX11_isSweptBy 42 = .ok (.iload 4, 2) := by decide +kernel
theorem dX11_isSweptBy_44 : decode cX11_isSweptBy 44 = .ok (.iaload, 1) := by decide +kernel
theorem dX11_isSweptBy_45 : decode cX11_isSweptBy 45 = .ok (.if_icmp .ne 14, 3) := by decide +kernel
theorem dX11_isSweptBy_48 : decode cX11_isSweptBy 48 = .ok (.iload_n 3, 1) := by decide +kernel
theorem dX11_isSweptBy_49 : decode cX11_isSweptBy 49 = .ok (.aload_n 0, 1) := by decide +kernel
theorem dX11_isSweptBy_50 : decode cX11_isSweptBy 50 = .ok (.getfield 89, 3) := by decide +kernel
theorem dX11_isSweptBy_53 : decode cX11_isSweptBy 53 = .ok (.iload 4, 2) := by decide +kernel
theorem dX11_isSweptBy_55 : decode cX11_isSweptBy 55 = .ok (.iaload, 1) := by decide +kernel
theorem dX11_isSweptBy_56 : decode cX11_isSweptBy 56 = .ok (.if_icmp .eq 25, 3) := by decide +kernel
theorem dX11_isSweptBy_59 : decode cX11_isSweptBy 59 = .ok (.iload_n 2, 1) := by decide +kernel
theorem dX11_isSweptBy_60 : decode cX11_isSweptBy 60 = .ok (.aload_n 0, 1) := by decide +kernel
theorem dX11_isSweptBy_61 : decode cX11_isSweptBy 61 = .ok (.getfield 86, 3) := by decide +kernel
theorem dX11_isSweptBy_64 : decode cX11_isSweptBy 64 = .ok (.iload 5, 2) := by decide +kernel
theorem dX11_isSweptBy_66 : decode cX11_isSweptBy 66 = .ok (.iaload, 1) := by decide +kernel
theorem dX11_isSweptBy_67 : decode cX11_isSweptBy 67 = .ok (.if_icmp .ne 16, 3) := by decide +kernel
theorem dX11_isSweptBy_70 : decode cX11_isSweptBy 70 = .ok (.iload_n 3, 1) := by decide +kernel
theorem dX11_isSweptBy_71 : decode cX11_isSweptBy 71 = .ok (.aload_n 0, 1) := by decide +kernel
theorem dX11_isSweptBy_72 : decode cX11_isSweptBy 72 = .ok (.getfield 89, 3) := by decide +kernel
theorem dX11_isSweptBy_75 : decode cX11_isSweptBy 75 = .ok (.iload 5, 2) := by decide +kernel
theorem dX11_isSweptBy_77 : decode cX11_isSweptBy 77 = .ok (.iaload, 1) := by decide +kernel
theorem dX11_isSweptBy_78 : decode cX11_isSweptBy 78 = .ok (.if_icmp .ne 5, 3) := by decide +kernel
theorem dX11_isSweptBy_81 : decode cX11_isSweptBy 81 = .ok (.iconst 0, 1) := by decide +kernel
theorem dX11_isSweptBy_82 : decode cX11_isSweptBy 82 = .ok (.ireturn, 1) := by decide +kernel
theorem dX11_isSweptBy_83 : decode cX11_isSweptBy 83 = .ok (.aload_n 0, 1) := by decide +kernel
theorem dX11_isSweptBy_84 : decode cX11_isSweptBy 84 = .ok (.getfield 101, 3) := by decide +kernel
theorem dX11_isSweptBy_87 : decode cX11_isSweptBy 87 = .ok (.iconst 0, 1) := by decide +kernel
theorem dX11_isSweptBy_88 : decode cX11_isSweptBy 88 = .ok (.aload_n 0, 1) := by decide +kernel
theorem dX11_isSweptBy_89 : decode cX11_isSweptBy 89 = .ok (.getfield 86, 3) := by decide +kernel
theorem dX11_isSweptBy_92 : decode cX11_isSweptBy 92 = .ok (.iload 4, 2) := by decide +kernel
theorem dX11_isSweptBy_94 : decode cX11_isSweptBy 94 = .ok (.iaload, 1) := by decide +kernel
theorem dX11_isSweptBy_95 : decode cX11_isSweptBy 95 = .ok (.iastore, 1) := by decide +kernel
theorem dX11_isSweptBy_96 : decode cX11_isSweptBy 96 = .ok (.aload_n 0, 1) := by decide +kernel
theorem dX11_isSweptBy_97 : decode cX11_isSweptBy 97 = .ok (.getfield 101, 3) := by decide +kernel
theorem dX11_isSweptBy_100 : decode cX11_isSweptBy 100 = .ok (.iconst 1, 1) := by decide +kernel
theorem dX11_isSweptBy_101 : decode cX11_isSweptBy 101 = .ok (.aload_n 0, 1) := by decide +kernel
theorem dX11_isSweptBy_102 : decode cX11_isSweptBy 102 = .ok (.getfield 89, 3) := by decide +kernel
theorem dX11_isSweptBy_105 : decode cX11_isSweptBy 105 = .ok (.iload 4, 2) := by decide +kernel
theorem dX11_isSweptBy_107 : decode cX11_isSweptBy 107 = .ok (.iaload, 1) := by decide +kernel
theorem dX11_isSweptBy_108 : decode cX11_isSweptBy 108 = .ok (.iastore, 1) := by decide +kernel
theorem dX11_isSweptBy_109 : decode cX11_isSweptBy 109 = .ok (.aload_n 0, 1) := by decide +kernel
theorem dX11_isSweptBy_110 : decode cX11_isSweptBy 110 = .ok (.getfield 101, 3) := by decide +kernel
theorem dX11_isSweptBy_113 : decode cX11_isSweptBy 113 = .ok (.iconst 2, 1) := by decide +kernel
theorem dX11_isSweptBy_114 : decode cX11_isSweptBy 114 = .ok (.aload_n 0, 1) := by decide +kernel
theorem dX11_isSweptBy_115 : decode cX11_isSweptBy 115 = .ok (.getfield 86, 3) := by decide +kernel
theorem dX11_isSweptBy_118 : decode cX11_isSweptBy 118 = .ok (.iload_n 1, 1) := by decide +kernel
theorem dX11_isSweptBy_119 : decode cX11_isSweptBy 119 = .ok (.iaload, 1) := by decide +kernel
theorem dX11_isSweptBy_120 : decode cX11_isSweptBy 120 = .ok (.iastore, 1) := by decide +kernel
theorem dX11_isSweptBy_121 : decode cX11_isSweptBy 121 = .ok (.aload_n 0, 1) := by decide +kernel
theorem dX11_isSweptBy_122 : decode cX11_isSweptBy 122 = .ok (.getfield 101, 3) := by decide +kernel
theorem dX11_isSweptBy_125 : decode cX11_isSweptBy 125 = .ok (.iconst 3, 1) := by decide +kernel
theorem dX11_isSweptBy_126 : decode cX11_isSweptBy 126 = .ok (.aload_n 0, 1) := by decide +kernel
theorem dX11_isSweptBy_127 : decode cX11_isSweptBy 127 = .ok (.getfield 89, 3) := by decide +kernel
theorem dX11_isSweptBy_130 : decode cX11_isSweptBy 130 = .ok (.iload_n 1, 1) := by decide +kernel
theorem dX11_isSweptBy_131 : decode cX11_isSweptBy 131 = .ok (.iaload, 1) := by decide +kernel
theorem dX11_isSweptBy_132 : decode cX11_isSweptBy 132 = .ok (.iastore, 1) := by decide +kernel
theorem dX11_isSweptBy_133 : decode cX11_isSweptBy 133 = .ok (.aload_n 0, 1) := by decide +kernel
theorem dX11_isSweptBy_134 : decode cX11_isSweptBy 134 = .ok (.getfield 101, 3) := by decide +kernel
theorem dX11_isSweptBy_137 : decode cX11_isSweptBy 137 = .ok (.iconst 4, 1) := by decide +kernel
theorem dX11_isSweptBy_138 : decode cX11_isSweptBy 138 = .ok (.aload_n 0, 1) := by decide +kernel
theorem dX11_isSweptBy_139 : decode cX11_isSweptBy 139 = .ok (.getfield 86, 3) := by decide +kernel
theorem dX11_isSweptBy_142 : decode cX11_isSweptBy 142 = .ok (.iload 5, 2) := by decide +kernel
theorem dX11_isSweptBy_144 : decode cX11_isSweptBy 144 = .ok (.iaload, 1) := by decide +kernel
theorem dX11_isSweptBy_145 : decode cX11_isSweptBy 145 = .ok (.iastore, 1) := by decide +kernel
theorem dX11_isSweptBy_146 : decode cX11_isSweptBy 146 = .ok (.aload_n 0, 1) := by decide +kernel
theorem dX11_isSweptBy_147 : decode cX11_isSweptBy 147 = .ok (.getfield 101, 3) := by decide +kernel
theorem dX11_isSweptBy_150 : decode cX11_isSweptBy 150 = .ok (.iconst 5, 1) := by decide +kernel
theorem dX11_isSweptBy_151 : decode cX11_isSweptBy 151 = .ok (.aload_n 0, 1) := by decide +kernel
theorem dX11_isSweptBy_152 : decode cX11_isSweptBy 152 = .ok (.getfield 89, 3) := by decide +kernel
theorem dX11_isSweptBy_155 : decode cX11_isSweptBy 155 = .ok (.iload 5, 2) := by decide +kernel
theorem dX11_isSweptBy_157 : decode cX11_isSweptBy 157 = .ok (.iaload, 1) := by decide +kernel
theorem dX11_isSweptBy_158 : decode cX11_isSweptBy 158 = .ok (.iastore, 1) := by decide +kernel
theorem dX11_isSweptBy_159 : decode cX11_isSweptBy 159 = .ok (.aload_n 0, 1) := by decide +kernel
theorem dX11_isSweptBy_160 : decode cX11_isSweptBy 160 = .ok (.getfield 101, 3) := by decide +kernel
theorem dX11_isSweptBy_163 : decode cX11_isSweptBy 163 = .ok (.iload_n 2, 1) := by decide +kernel
theorem dX11_isSweptBy_164 : decode cX11_isSweptBy 164 = .ok (.iload_n 3, 1) := by decide +kernel
theorem dX11_isSweptBy_165 : decode cX11_isSweptBy 165 = .ok (.invokestatic 226, 3) := by decide +kernel
theorem dX11_isSweptBy_168 : decode cX11_isSweptBy 168 = .ok (.ireturn, 1) := by decide +kernel
theorem dX11_isSwept_0 : decode cX11_isSwept 0 = .ok (.aload_n 0, 1) := by decide +kernel
theorem dX11_isSwept_1 : decode cX11_isSwept 1 = .ok (.iload_n 1, 1) := by decide +kernel
theorem dX11_isSwept_2 : decode cX11_isSwept 2 = .ok (.invokevirtual 230, 3) := by decide +kernel
theorem dX11_isSwept_5 : decode cX11_isSwept 5 = .ok (.iconst 0, 1) := by decide +kernel
theorem dX11_isSwept_6 : decode cX11_isSwept 6 = .ok (.istore 4, 2) := by decide +kernel
theorem dX11_isSwept_8 : decode cX11_isSwept 8 = .ok (.iload 4, 2) := by decide +kernel
theorem dX11_isSwept_10 : decode cX11_isSwept 10 = .ok (.aload_n 0, 1) := by decide +kernel
theorem dX11_isSwept_11 : decode cX11_isSwept 11 = .ok (.iload_n 1, 1) := by decide +kernel
theorem dX11_isSwept_12 : decode cX11_isSwept 12 = .ok (.invokevirtual 164, 3) := by decide +kernel
theorem dX11_isSwept_15 : decode cX11_isSwept 15 = .ok (.if_icmp .ge 259, 3) := by decide +kernel
theorem dX11_isSwept_18 : decode cX11_isSwept 18 = .ok (.iload 4, 2) := by decide +kernel
theorem dX11_isSwept_20 : decode cX11_isSwept 20 = .ok (.iconst 1, 1) := by decide +kernel
theorem dX11_isSwept_21 : decode cX11_isSwept 21 = .ok (.iadd, 1) := by decide +kernel
theorem dX11_isSwept_22 : decode cX11_isSwept 22 = .ok (.aload_n 0, 1) := by decide +kernel
theorem dX11_isSwept_23 : decode cX11_isSwept 23 = .ok (.getfield 191, 3) := by decide +kernel
theorem dX11_isSwept_26 : decode cX11_isSwept 26 = .ok (.if_icmp .ne 7, 3) := by decide +kernel
theorem dX11_isSwept_29 : decode cX11_isSwept 29 = .ok (.iconst 0, 1) := by decide +kernel
theorem dX11_isSwept_30 : decode cX11_isSwept 30 = .ok (.goto 7, 3) := by decide +kernel
theorem dX11_isSwept_33 : decode cX11_isSwept 33 = .ok (.iload 4, 2) := by decide +kernel
theorem dX11_isSwept_35 : decode cX11_isSwept 35 = .ok (.iconst 1, 1) := by decide +kernel
theorem dX11_isSwept_36 : decode cX11_isSwept 36 = .ok (.iadd, 1) := by decide +kernel
theorem dX11_isSwept_37 : decode cX11_isSwept 37 = .ok (.istore 5, 2) := by decide +kernel
theorem dX11_isSwept_39 : decode cX11_isSwept 39 = .ok (.aload_n 0, 1) := by decide +kernel
theorem dX11_isSwept_40 : decode cX11_isSwept 40 = .ok (.getfield 86, 3) := by decide +kernel
theorem dX11_isSwept_43 : decode cX11_isSwept 43 = .ok (.iload 4, 2) := by decide +kernel
theorem dX11_isSwept_45 : decode cX11_isSwept 45 = .ok (.iaload, 1) := by decide +kernel
theorem dX11_isSwept_46 : decode cX11_isSwept 46 = .ok (.aload_n 0, 1) := by decide +kernel
theorem dX11_isSwept_47 : decode cX11_isSwept 47 = .ok (.getfield 77, 3) := by decide +kernel
theorem dX11_isSwept_50 : decode cX11_isSwept 50 = .ok (.iload 4, 2) := by decide +kernel
theorem dX11_isSwept_52 : decode cX11_isSwept 52 = .ok (.iaload, 1) := by decide +kernel
theorem dX11_isSwept_53 : decode cX11_isSwept 53 = .ok (.if_icmp .ne 24, 3) := by decide +kernel
theorem dX11_isSwept_56 : decode cX11_isSwept 56 = .ok (.aload_n 0, 1) := by decide +kernel
theorem dX11_isSwept_57 : decode cX11_isSwept 57 = .ok (.getfield 89, 3) := by decide +kernel
theorem dX11_isSwept_60 : decode cX11_isSwept 60 = .ok (.iload 4, 2) := by decide +kernel
theorem dX11_isSwept_62 : decode cX11_isSwept 62 = .ok (.iaload, 1) := by decide +kernel
theorem dX11_isSwept_63 : decode cX11_isSwept 63 = .ok (.aload_n 0, 1) := by decide +kernel
theorem dX11_isSwept_64 : decode cX11_isSwept 64 = .ok (.getfield 80, 3) := by decide +kernel
theorem dX11_isSwept_67 : decode cX11_isSwept 67 = .ok (.iload 4, 2) := by decide +kernel
theorem dX11_isSwept_69 : decode cX11_isSwept 69 = .ok (.iaload, 1) := by decide +kernel
theorem dX11_isSwept_70 : decode cX11_isSwept 70 = .ok (.if_icmp .ne 7, 3) := by decide +kernel
theorem dX11_isSwept_73 : decode cX11_isSwept 73 = .ok (.iconst 1, 1) := by decide +kernel
theorem dX11_isSwept_74 : decode cX11_isSwept 74 = .ok (.goto 4, 3) := by decide +kernel
theorem dX11_isSwept_77 : decode cX11_isSwept 77 = .ok (.iconst 0, 1) := by decide +kernel
theorem dX11_isSwept_78 : decode cX11_isSwept 78 = .ok (.istore 6, 2) := by decide +kernel
theorem dX11_isSwept_80 : decode cX11_isSwept 80 = .ok (.aload_n 0, 1) := by decide +kernel
theorem dX11_isSwept_81 : decode cX11_isSwept 81 = .ok (.getfield 86, 3) := by decide +kernel
theorem dX11_isSwept_84 : decode cX11_isSwept 84 = .ok (.iload 5, 2) := by decide +kernel
theorem dX11_isSwept_86 : decode cX11_isSwept 86 = .ok (.iaload, 1) := by decide +kernel
theorem dX11_isSwept_87 : decode cX11_isSwept 87 = .ok (.aload_n 0, 1) := by decide +kernel
theorem dX11_isSwept_88 : decode cX11_isSwept 88 = .ok (.getfield 77, 3) := by decide +kernel
theorem dX11_isSwept_91 : decode cX11_isSwept 91 = .ok (.iload 5, 2) := by decide +kernel
theorem dX11_isSwept_93 : decode cX11_isSwept 93 = .ok (.iaload, 1) := by decide +kernel
theorem dX11_isSwept_94 : decode cX11_isSwept 94 = .ok (.if_icmp .ne 24, 3) := by decide +kernel
theorem dX11_isSwept_97 : decode cX11_isSwept 97 = .ok (.aload_n 0, 1) := by decide +kernel
theorem dX11_isSwept_98 : decode cX11_isSwept 98 = .ok (.getfield 89, 3) := by decide +kernel
theorem dX11_isSwept_101 : decode cX11_isSwept 101 = .ok (.iload 5, 2) := by decide +kernel
theorem dX11_isSwept_103 : decode cX11_isSwept 103 = .ok (.iaload, 1) := by decide +kernel
theorem dX11_isSwept_104 : decode cX11_isSwept 104 = .ok (.aload_n 0, 1) := by decide +kernel
theorem dX11_isSwept_105 : decode cX11_isSwept 105 = .ok (.getfield 80, 3) := by decide +kernel
theorem dX11_isSwept_108 : decode cX11_isSwept 108 = .ok (.iload 5, 2) := by decide +kernel
theorem dX11_isSwept_110 : decode cX11_isSwept 110 = .ok (.iaload, 1) := by decide +kernel
theorem dX11_isSwept_111 : decode cX11_isSwept 111 = .ok (.if_icmp .ne 7, 3) := by decide +kernel
theorem dX11_isSwept_114 : decode cX11_isSwept 114 = .ok (.iconst 1, 1) := by decide +kernel
theorem dX11_isSwept_115 : decode cX11_isSwept 115 = .ok (.goto 4, 3) := by decide +kernel
theorem dX11_isSwept_118 : decode cX11_isSwept 118 = .ok (.iconst 0, 1) := by decide +kernel
theorem dX11_isSwept_119 : decode cX11_isSwept 119 = .ok (.istore 7, 2) := by decide +kernel
theorem dX11_isSwept_121 : decode cX11_isSwept 121 = .ok (.iload 6, 2) := by decide +kernel
theorem dX11_isSwept_123 : decode cX11_isSwept 123 = .ok (.ifCond .eq 8, 3) := by decide +kernel
theorem dX11_isSwept_126 : decode cX11_isSwept 126 = .ok (.iload 7, 2) := by decide +kernel
theorem dX11_isSwept_128 : decode cX11_isSwept 128 = .ok (.ifCond .ne 140, 3) := by decide +kernel
theorem dX11_isSwept_131 : decode cX11_isSwept 131 = .ok (.iload 6, 2) := by decide +kernel
theorem dX11_isSwept_133 : decode cX11_isSwept 133 = .ok (.ifCond .eq 25, 3) := by decide +kernel
theorem dX11_isSwept_136 : decode cX11_isSwept 136 = .ok (.iload_n 2, 1) := by decide +kernel
theorem dX11_isSwept_137 : decode cX11_isSwept 137 = .ok (.aload_n 0, 1) := by decide +kernel
theorem dX11_isSwept_138 : decode cX11_isSwept 138 = .ok (.getfield 86, 3) := by decide +kernel
theorem dX11_isSwept_141 : decode cX11_isSwept 141 = .ok (.iload 4, 2) := by decide +kernel
theorem dX11_isSwept_143 : decode cX11_isSwept 143 = .ok (.iaload, 1) := by decide +kernel
theorem dX11_isSwept_144 : decode cX11_isSwept 144 = .ok (.if_icmp .ne 14, 3) := by decide +kernel
theorem dX11_isSwept_147 : decode cX11_isSwept 147 = .ok (.iload_n 3, 1) := by decide +kernel
theorem dX11_isSwept_148 : decode cX11_isSwept 148 = .ok (.aload_n 0, 1) := by decide +kernel
theorem dX11_isSwept_149 : decode cX11_isSwept 149 = .ok (.getfield 89, 3) := by decide +kernel
theorem dX11_isSwept_152 : decode cX11_isSwept 152 = .ok (.iload 4, 2) := by decide +kernel
theorem dX11_isSwept_154 : decode cX11_isSwept 154 = .ok (.iaload, 1) := by decide +kernel
theorem dX11_isSwept_155 : decode cX11_isSwept 155 = .ok (.if_icmp .eq 113, 3) := by decide +kernel
theorem dX11_isSwept_158 : decode cX11_isSwept 158 = .ok (.iload 7, 2) := by decide +kernel
theorem dX11_isSwept_160 : decode cX11_isSwept 160 = .ok (.ifCond .eq 28, 3) := by decide +kernel
theorem dX11_isSwept_163 : decode cX11_isSwept 163 = .ok (.iload_n 2, 1) := by decide +kernel
theorem dX11_isSwept_164 : decode cX11_isSwept 164 = .ok (.aload_n 0, 1) := by decide +kernel
theorem dX11_isSwept_165 : decode cX11_isSwept 165 = .ok (.getfield 86, 3) := by decide +kernel
theorem dX11_isSwept_168 : decode cX11_isSwept 168 = .ok (.iload 5, 2) := by decide +kernel
theorem dX11_isSwept_170 : decode cX11_isSwept 170 = .ok (.iaload, 1) := by decide +kernel
theorem dX11_isSwept_171 : decode cX11_isSwept 171 = .ok (.if_icmp .ne 17, 3) := by decide +kernel
theorem dX11_isSwept_174 : decode cX11_isSwept 174 = .ok (.iload_n 3, 1) := by decide +kernel
theorem dX11_isSwept_175 : decode cX11_isSwept 175 = .ok (.aload_n 0, 1) := by decide +kernel
theorem dX11_isSwept_176 : decode cX11_isSwept 176 = .ok (.getfield 89, 3) := by decide +kernel
theorem dX11_isSwept_179 : decode cX11_isSwept 179 = .ok (.iload 5, 2) := by decide +kernel
theorem dX11_isSwept_181 : decode cX11_isSwept 181 = .ok (.iaload, 1) := by decide +kernel
theorem dX11_isSwept_182 : decode cX11_isSwept 182 = .ok (.if_icmp .ne 6, 3) := by decide +kernel
theorem dX11_isSwept_185 : decode cX11_isSwept 185 = .ok (.goto 83, 3) := by decide +kernel
theorem dX11_isSwept_188 : decode cX11_isSwept 188 = .ok (.aload_n 0, 1) := by decide +kernel
theorem dX11_isSwept_189 : decode cX11_isSwept 189 = .ok (.aload_n 0, 1) := by decide +kernel
theorem dX11_isSwept_190 : decode cX11_isSwept 190 = .ok (.getfield 86, 3) := by decide +kernel
theorem dX11_isSwept_193 : decode cX11_isSwept 193 = .ok (.iload 4, 2) := by decide +kernel
theorem dX11_isSwept_195 : decode cX11_isSwept 195 = .ok (.iaload, 1) := by decide +kernel
theorem dX11_isSwept_196 : decode cX11_isSwept 196 = .ok (.aload_n 0, 1) := by decide +kernel
theorem dX11_isSwept_197 : decode cX11_isSwept 197 = .ok (.getfield 89, 3) := by decide +kernel
theorem dX11_isSwept_200 : decode cX11_isSwept 200 = .ok (.iload 4, 2) := by decide +kernel
theorem dX11_isSwept_202 : decode cX11_isSwept 202 = .ok (.iaload, 1) := by decide +kernel
theorem dX11_isSwept_203 : decode cX11_isSwept 203 = .ok (.aload_n 0, 1) := by decide +kernel
theorem dX11_isSwept_204 : decode cX11_isSwept 204 = .ok (.getfield 86, 3) := by decide +kernel
theorem dX11_isSwept_207 : decode cX11_isSwept 207 = .ok (.iload 5, 2) := by decide +kernel
theorem dX11_isSwept_209 : decode cX11_isSwept 209 = .ok (.iaload, 1) := by decide +kernel
theorem dX11_isSwept_210 : decode cX11_isSwept 210 = .ok (.aload_n 0, 1) := by decide +kernel
theorem dX11_isSwept_211 : decode cX11_isSwept 211 = .ok (.getfield 89, 3) := by decide +kernel
theorem dX11_isSwept_214 : decode cX11_isSwept 214 = .ok (.iload 5, 2) := by decide +kernel
theorem dX11_isSwept_216 : decode cX11_isSwept 216 = .ok (.iaload, 1) := by decide +kernel
theorem dX11_isSwept_217 : decode cX11_isSwept 217 = .ok (.iload 5, 2) := by decide +kernel
theorem dX11_isSwept_219 : decode cX11_isSwept 219 = .ok (.iload_n 2, 1) := by decide +kernel
theorem dX11_isSwept_220 : decode cX11_isSwept 220 = .ok (.iload_n 3, 1) := by decide +kernel
theorem dX11_isSwept_221 : decode cX11_isSwept 221 = .ok (.invokevirtual 234, 3) := by decide +kernel
theorem dX11_isSwept_224 : decode cX11_isSwept 224 = .ok (.ifCond .ne 42, 3) := by decide +kernel
theorem dX11_isSwept_227 : decode cX11_isSwept 227 = .ok (.aload_n 0, 1) := by decide +kernel
theorem dX11_isSwept_228 : decode cX11_isSwept 228 = .ok (.aload_n 0, 1) := by decide +kernel
theorem dX11_isSwept_229 : decode cX11_isSwept 229 = .ok (.getfield 86, 3) := by decide +kernel
theorem dX11_isSwept_232 : decode cX11_isSwept 232 = .ok (.iload 4, 2) := by decide +kernel
theorem dX11_isSwept_234 : decode cX11_isSwept 234 = .ok (.iaload, 1) := by decide +kernel
theorem dX11_isSwept_235 : decode cX11_isSwept 235 = .ok (.aload_n 0, 1) := by decide +kernel
theorem dX11_isSwept_236 : decode cX11_isSwept 236 = .ok (.getfield 89, 3) := by decide +kernel
theorem dX11_isSwept_239 : decode cX11_isSwept 239 = .ok (.iload 4, 2) := by decide +kernel
theorem dX11_isSwept_241 : decode cX11_isSwept 241 = .ok (.iaload, 1) := by decide +kernel
theorem dX11_isSwept_242 : decode cX11_isSwept 242 = .ok (.aload_n 0, 1) := by decide +kernel
theorem dX11_isSwept_243 : decode cX11_isSwept 243 = .ok (.getfield 77, 3) := by decide +kernel
end
section
theorem dX11_isSwept_246 : decode cX11_isSwept 246 = .ok (.iload 4, 2) := by decide +kernel
theorem dX11_isSwept_248 : decode cX11_isSwept 248 = .ok (.iaload, 1) := by decide +kernel
theorem dX11_isSwept_249 : decode cX11_isSwept 249 = .ok (.aload_n 0, 1) := by decide +kernel
theorem dX11_isSwept_250 : decode cX11_isSwept 250 = .ok (.getfield 80, 3) := by decide +kernel
theorem dX11_isSwept_253 : decode cX11_isSwept 253 = .ok (.iload 4, 2) := by decide +kernel
theorem dX11_isSwept_255 : decode cX11_isSwept 255 = .ok (.iaload, 1) := by decide +kernel
theorem dX11_isSwept_256 : decode cX11_isSwept 256 = .ok (.iload 5, 2) := by decide +kernel
theorem dX11_isSwept_258 : decode cX11_isSwept 258 = .ok (.iload_n 2, 1) := by decide +kernel
theorem dX11_isSwept_259 : decode cX11_isSwept 259 = .ok (.iload_n 3, 1) := by decide +kernel
theorem dX11_isSwept_260 : decode cX11_isSwept 260 = .ok (.invokevirtual 234, 3) := by decide +kernel
theorem dX11_isSwept_263 : decode cX11_isSwept 263 = .ok (.ifCond .eq 5, 3) := by decide +kernel
theorem dX11_isSwept_266 : decode cX11_isSwept 266 = .ok (.iconst 1, 1) := by decide +kernel
theorem dX11_isSwept_267 : decode cX11_isSwept 267 = .ok (.ireturn, 1) := by decide +kernel
theorem dX11_isSwept_268 : decode cX11_isSwept 268 = .ok (.iinc 4 1, 3) := by decide +kernel
theorem dX11_isSwept_271 : decode cX11_isSwept 271 = .ok (.goto (-263), 3) := by decide +kernel
theorem dX11_isSwept_274 : decode cX11_isSwept 274 = .ok (.iconst 0, 1) := by decide +kernel
theorem dX11_isSwept_275 : decode cX11_isSwept 275 = .ok (.ireturn, 1) := by decide +kernel
theorem dX11_isFreeWay_0 : decode cX11_isFreeWay 0 = .ok (.aload_n 0, 1) := by decide +kernel
theorem dX11_isFreeWay_1 : decode cX11_isFreeWay 1 = .ok (.getfield 86, 3) := by decide +kernel
theorem dX11_isFreeWay_4 : decode cX11_isFreeWay 4 = .ok (.iconst 0, 1) := by decide +kernel
theorem dX11_isFreeWay_5 : decode cX11_isFreeWay 5 = .ok (.iaload, 1) := by decide +kernel
theorem dX11_isFreeWay_6 : decode cX11_isFreeWay 6 = .ok (.istore_n 3, 1) := by decide +kernel
theorem dX11_isFreeWay_7 : decode cX11_isFreeWay 7 = .ok (.aload_n 0, 1) := by decide +kernel
theorem dX11_isFreeWay_8 : decode cX11_isFreeWay 8 = .ok (.getfield 89, 3) := by decide +kernel
theorem dX11_isFreeWay_11 : decode cX11_isFreeWay 11 = .ok (.iconst 0, 1) := by decide +kernel
theorem dX11_isFreeWay_12 : decode cX11_isFreeWay 12 = .ok (.iaload, 1) := by decide +kernel
theorem dX11_isFreeWay_13 : decode cX11_isFreeWay 13 = .ok (.istore 4, 2) := by decide +kernel
theorem dX11_isFreeWay_15 : decode cX11_isFreeWay 15 = .ok (.aload_n 0, 1) := by decide +kernel
theorem dX11_isFreeWay_16 : decode cX11_isFreeWay 16 = .ok (.getfield 44, 3) := by decide +kernel
theorem dX11_isFreeWay_19 : decode cX11_isFreeWay 19 = .ok (.bipush 40, 2) := by decide +kernel
theorem dX11_isFreeWay_21 : decode cX11_isFreeWay 21 = .ok (.iload_n 1, 1) := by decide +kernel
theorem dX11_isFreeWay_22 : decode cX11_isFreeWay 22 = .ok (.imul, 1) := by decide +kernel
theorem dX11_isFreeWay_23 : decode cX11_isFreeWay 23 = .ok (.iaload, 1) := by decide +kernel
theorem dX11_isFreeWay_24 : decode cX11_isFreeWay 24 = .ok (.istore 5, 2) := by decide +kernel
theorem dX11_isFreeWay_26 : decode cX11_isFreeWay 26 = .ok (.aload_n 0, 1) := by decide +kernel
theorem dX11_isFreeWay_27 : decode cX11_isFreeWay 27 = .ok (.getfield 47, 3) := by decide +kernel
theorem dX11_isFreeWay_30 : decode cX11_isFreeWay 30 = .ok (.bipush 40, 2) := by decide +kernel
theorem dX11_isFreeWay_32 : decode cX11_isFreeWay 32 = .ok (.iload_n 1, 1) := by decide +kernel
theorem dX11_isFreeWay_33 : decode cX11_isFreeWay 33 = .ok (.imul, 1) := by decide +kernel
theorem dX11_isFreeWay_34 : decode cX11_isFreeWay 34 = .ok (.iaload, 1) := by decide +kernel
theorem dX11_isFreeWay_35 : decode cX11_isFreeWay 35 = .ok (.istore 6, 2) := by decide +kernel
theorem dX11_isFreeWay_37 : decode cX11_isFreeWay 37 = .ok (.iconst 0, 1) := by decide +kernel
theorem dX11_isFreeWay_38 : decode cX11_isFreeWay 38 = .ok (.istore 7, 2) := by decide +kernel
theorem dX11_isFreeWay_40 : decode cX11_isFreeWay 40 = .ok (.iload 7, 2) := by decide +kernel
theorem dX11_isFreeWay_42 : decode cX11_isFreeWay 42 = .ok (.aload_n 0, 1) := by decide +kernel
theorem dX11_isFreeWay_43 : decode cX11_isFreeWay 43 = .ok (.iload_n 2, 1) := by decide +kernel
theorem dX11_isFreeWay_44 : decode cX11_isFreeWay 44 = .ok (.invokevirtual 164, 3) := by decide +kernel
theorem dX11_isFreeWay_47 : decode cX11_isFreeWay 47 = .ok (.if_icmp .ge 70, 3) := by decide +kernel
theorem dX11_isFreeWay_50 : decode cX11_isFreeWay 50 = .ok (.aload_n 0, 1) := by decide +kernel
theorem dX11_isFreeWay_51 : decode cX11_isFreeWay 51 = .ok (.iload_n 2, 1) := by decide +kernel
theorem dX11_isFreeWay_52 : decode cX11_isFreeWay 52 = .ok (.iload 7, 2) := by decide +kernel
theorem dX11_isFreeWay_54 : decode cX11_isFreeWay 54 = .ok (.iconst 4, 1) := by decide +kernel
theorem dX11_isFreeWay_55 : decode cX11_isFreeWay 55 = .ok (.invokevirtual 167, 3) := by decide +kernel
theorem dX11_isFreeWay_58 : decode cX11_isFreeWay 58 = .ok (.aload_n 0, 1) := by decide +kernel
theorem dX11_isFreeWay_59 : decode cX11_isFreeWay 59 = .ok (.getfield 83, 3) := by decide +kernel
theorem dX11_isFreeWay_62 : decode cX11_isFreeWay 62 = .ok (.iconst 0, 1) := by decide +kernel
theorem dX11_isFreeWay_63 : decode cX11_isFreeWay 63 = .ok (.iload_n 3, 1) := by decide +kernel
theorem dX11_isFreeWay_64 : decode cX11_isFreeWay 64 = .ok (.iastore, 1) := by decide +kernel
theorem dX11_isFreeWay_65 : decode cX11_isFreeWay 65 = .ok (.aload_n 0, 1) := by decide +kernel
theorem dX11_isFreeWay_66 : decode cX11_isFreeWay 66 = .ok (.getfield 83, 3) := by decide +kernel
theorem dX11_isFreeWay_69 : decode cX11_isFreeWay 69 = .ok (.iconst 1, 1) := by decide +kernel
theorem dX11_isFreeWay_70 : decode cX11_isFreeWay 70 = .ok (.iload 4, 2) := by decide +kernel
theorem dX11_isFreeWay_72 : decode cX11_isFreeWay 72 = .ok (.iastore, 1) := by decide +kernel
theorem dX11_isFreeWay_73 : decode cX11_isFreeWay 73 = .ok (.aload_n 0, 1) := by decide +kernel
theorem dX11_isFreeWay_74 : decode cX11_isFreeWay 74 = .ok (.getfield 83, 3) := by decide +kernel
theorem dX11_isFreeWay_77 : decode cX11_isFreeWay 77 = .ok (.iconst 2, 1) := by decide +kernel
theorem dX11_isFreeWay_78 : decode cX11_isFreeWay 78 = .ok (.iload 5, 2) := by decide +kernel
theorem dX11_isFreeWay_80 : decode cX11_isFreeWay 80 = .ok (.iastore, 1) := by decide +kernel
theorem dX11_isFreeWay_81 : decode cX11_isFreeWay 81 = .ok (.aload_n 0, 1) := by decide +kernel
theorem dX11_isFreeWay_82 : decode cX11_isFreeWay 82 = .ok (.getfield 83, 3) := by decide +kernel
theorem dX11_isFreeWay_85 : decode cX11_isFreeWay 85 = .ok (.iconst 3, 1) := by decide +kernel
theorem dX11_isFreeWay_86 : decode cX11_isFreeWay 86 = .ok (.iload 6, 2) := by decide +kernel
theorem dX11_isFreeWay_88 : decode cX11_isFreeWay 88 = .ok (.iastore, 1) := by decide +kernel
theorem dX11_isFreeWay_89 : decode cX11_isFreeWay 89 = .ok (.aload_n 0, 1) := by decide +kernel
theorem dX11_isFreeWay_90 : decode cX11_isFreeWay 90 = .ok (.getfield 83, 3) := by decide +kernel
theorem dX11_isFreeWay_93 : decode cX11_isFreeWay 93 = .ok (.invokestatic 171, 3) := by decide +kernel
theorem dX11_isFreeWay_96 : decode cX11_isFreeWay 96 = .ok (.ifCond .eq 15, 3) := by decide +kernel
theorem dX11_isFreeWay_99 : decode cX11_isFreeWay 99 = .ok (.aload_n 0, 1) := by decide +kernel
theorem dX11_isFreeWay_100 : decode cX11_isFreeWay 100 = .ok (.iload_n 3, 1) := by decide +kernel
theorem dX11_isFreeWay_101 : decode cX11_isFreeWay 101 = .ok (.iload 4, 2) := by decide +kernel
theorem dX11_isFreeWay_103 : decode cX11_isFreeWay 103 = .ok (.invokevirtual 238, 3) := by decide +kernel
theorem dX11_isFreeWay_106 : decode cX11_isFreeWay 106 = .ok (.ifCond .ne 5, 3) := by decide +kernel
theorem dX11_isFreeWay_109 : decode cX11_isFreeWay 109 = .ok (.iconst 0, 1) := by decide +kernel
theorem dX11_isFreeWay_110 : decode cX11_isFreeWay 110 = .ok (.ireturn, 1) := by decide +kernel
theorem dX11_isFreeWay_111 : decode cX11_isFreeWay 111 = .ok (.iinc 7 1, 3) := by decide +kernel
theorem dX11_isFreeWay_114 : decode cX11_isFreeWay 114 = .ok (.goto (-74), 3) := by decide +kernel
theorem dX11_isFreeWay_117 : decode cX11_isFreeWay 117 = .ok (.iconst 1, 1) := by decide +kernel
theorem dX11_isFreeWay_118 : decode cX11_isFreeWay 118 = .ok (.ireturn, 1) := by decide +kernel
theorem dX11_isOnlyAt_0 : decode cX11_isOnlyAt 0 = .ok (.aload_n 0, 1) := by decide +kernel
theorem dX11_isOnlyAt_1 : decode cX11_isOnlyAt 1 = .ok (.getfield 83, 3) := by decide +kernel
theorem dX11_isOnlyAt_4 : decode cX11_isOnlyAt 4 = .ok (.iconst 4, 1) := by decide +kernel
theorem dX11_isOnlyAt_5 : decode cX11_isOnlyAt 5 = .ok (.iaload, 1) := by decide +kernel
theorem dX11_isOnlyAt_6 : decode cX11_isOnlyAt 6 = .ok (.aload_n 0, 1) := by decide +kernel
theorem dX11_isOnlyAt_7 : decode cX11_isOnlyAt 7 = .ok (.getfield 83, 3) := by decide +kernel
theorem dX11_isOnlyAt_10 : decode cX11_isOnlyAt 10 = .ok (.iconst 5, 1) := by decide +kernel
theorem dX11_isOnlyAt_11 : decode cX11_isOnlyAt 11 = .ok (.iaload, 1) := by decide +kernel
theorem dX11_isOnlyAt_12 : decode cX11_isOnlyAt 12 = .ok (.aload_n 0, 1) := by decide +kernel
theorem dX11_isOnlyAt_13 : decode cX11_isOnlyAt 13 = .ok (.getfield 83, 3) := by decide +kernel
theorem dX11_isOnlyAt_16 : decode cX11_isOnlyAt 16 = .ok (.bipush 6, 2) := by decide +kernel
theorem dX11_isOnlyAt_18 : decode cX11_isOnlyAt 18 = .ok (.iaload, 1) := by decide +kernel
theorem dX11_isOnlyAt_19 : decode cX11_isOnlyAt 19 = .ok (.aload_n 0, 1) := by decide +kernel
theorem dX11_isOnlyAt_20 : decode cX11_isOnlyAt 20 = .ok (.getfield 83, 3) := by decide +kernel
theorem dX11_isOnlyAt_23 : decode cX11_isOnlyAt 23 = .ok (.bipush 7, 2) := by decide +kernel
theorem dX11_isOnlyAt_25 : decode cX11_isOnlyAt 25 = .ok (.iaload, 1) := by decide +kernel
theorem dX11_isOnlyAt_26 : decode cX11_isOnlyAt 26 = .ok (.iload_n 1, 1) := by decide +kernel
theorem dX11_isOnlyAt_27 : decode cX11_isOnlyAt 27 = .ok (.iload_n 2, 1) := by decide +kernel
theorem dX11_isOnlyAt_28 : decode cX11_isOnlyAt 28 = .ok (.invokestatic 157, 3) := by decide +kernel
theorem dX11_isOnlyAt_31 : decode cX11_isOnlyAt 31 = .ok (.ifCond .ne 5, 3) := by decide +kernel
theorem dX11_isOnlyAt_34 : decode cX11_isOnlyAt 34 = .ok (.iconst 0, 1) := by decide +kernel
theorem dX11_isOnlyAt_35 : decode cX11_isOnlyAt 35 = .ok (.ireturn, 1) := by decide +kernel
theorem dX11_isOnlyAt_36 : decode cX11_isOnlyAt 36 = .ok (.aload_n 0, 1) := by decide +kernel
theorem dX11_isOnlyAt_37 : decode cX11_isOnlyAt 37 = .ok (.getfield 83, 3) := by decide +kernel
theorem dX11_isOnlyAt_40 : decode cX11_isOnlyAt 40 = .ok (.iconst 0, 1) := by decide +kernel
theorem dX11_isOnlyAt_41 : decode cX11_isOnlyAt 41 = .ok (.iaload, 1) := by decide +kernel
theorem dX11_isOnlyAt_42 : decode cX11_isOnlyAt 42 = .ok (.aload_n 0, 1) := by decide +kernel
theorem dX11_isOnlyAt_43 : decode cX11_isOnlyAt 43 = .ok (.getfield 83, 3) := by decide +kernel
theorem dX11_isOnlyAt_46 : decode cX11_isOnlyAt 46 = .ok (.iconst 2, 1) := by decide +kernel
theorem dX11_isOnlyAt_47 : decode cX11_isOnlyAt 47 = .ok (.iaload, 1) := by decide +kernel
theorem dX11_isOnlyAt_48 : decode cX11_isOnlyAt 48 = .ok (.if_icmp .ne 18, 3) := by decide +kernel
theorem dX11_isOnlyAt_51 : decode cX11_isOnlyAt 51 = .ok (.aload_n 0, 1) := by decide +kernel
theorem dX11_isOnlyAt_52 : decode cX11_isOnlyAt 52 = .ok (.getfield 83, 3) := by decide +kernel
theorem dX11_isOnlyAt_55 : decode cX11_isOnlyAt 55 = .ok (.iconst 1, 1) := by decide +kernel
theorem dX11_isOnlyAt_56 : decode cX11_isOnlyAt 56 = .ok (.iaload, 1) := by decide +kernel
theorem dX11_isOnlyAt_57 : decode cX11_isOnlyAt 57 = .ok (.aload_n 0, 1) := by decide +kernel
theorem dX11_isOnlyAt_58 : decode cX11_isOnlyAt 58 = .ok (.getfield 83, 3) := by decide +kernel
theorem dX11_isOnlyAt_61 : decode cX11_isOnlyAt 61 = .ok (.iconst 3, 1) := by decide +kernel
theorem dX11_isOnlyAt_62 : decode cX11_isOnlyAt 62 = .ok (.iaload, 1) := by decide +kernel
theorem dX11_isOnlyAt_63 : decode cX11_isOnlyAt 63 = .ok (.if_icmp .eq 35, 3) := by decide +kernel
theorem dX11_isOnlyAt_66 : decode cX11_isOnlyAt 66 = .ok (.aload_n 0, 1) := by decide +kernel
theorem dX11_isOnlyAt_67 : decode cX11_isOnlyAt 67 = .ok (.getfield 83, 3) := by decide +kernel
theorem dX11_isOnlyAt_70 : decode cX11_isOnlyAt 70 = .ok (.iconst 4, 1) := by decide +kernel
theorem dX11_isOnlyAt_71 : decode cX11_isOnlyAt 71 = .ok (.iaload, 1) := by decide +kernel
theorem dX11_isOnlyAt_72 : decode cX11_isOnlyAt 72 = .ok (.aload_n 0, 1) := by decide +kernel
theorem dX11_isOnlyAt_73 : decode cX11_isOnlyAt 73 = .ok (.getfield 83, 3) := by decide +kernel
theorem dX11_isOnlyAt_76 : decode cX11_isOnlyAt 76 = .ok (.bipush 6, 2) := by decide +kernel
theorem dX11_isOnlyAt_78 : decode cX11_isOnlyAt 78 = .ok (.iaload, 1) := by decide +kernel
theorem dX11_isOnlyAt_79 : decode cX11_isOnlyAt 79 = .ok (.if_icmp .ne 21, 3) := by decide +kernel
theorem dX11_isOnlyAt_82 : decode cX11_isOnlyAt 82 = .ok (.aload_n 0, 1) := by decide +kernel
theorem dX11_isOnlyAt_83 : decode cX11_isOnlyAt 83 = .ok (.getfield 83, 3) := by decide +kernel
theorem dX11_isOnlyAt_86 : decode cX11_isOnlyAt 86 = .ok (.iconst 5, 1) := by decide +kernel
theorem dX11_isOnlyAt_87 : decode cX11_isOnlyAt 87 = .ok (.iaload, 1) := by decide +kernel
theorem dX11_isOnlyAt_88 : decode cX11_isOnlyAt 88 = .ok (.aload_n 0, 1) := by decide +kernel
theorem dX11_isOnlyAt_89 : decode cX11_isOnlyAt 89 = .ok (.getfield 83, 3) := by decide +kernel
theorem dX11_isOnlyAt_92 : decode cX11_isOnlyAt 92 = .ok (.bipush 7, 2) := by decide +kernel
theorem dX11_isOnlyAt_94 : decode cX11_isOnlyAt 94 = .ok (.iaload, 1) := by decide +kernel
theorem dX11_isOnlyAt_95 : decode cX11_isOnlyAt 95 = .ok (.if_icmp .ne 5, 3) := by decide +kernel
theorem dX11_isOnlyAt_98 : decode cX11_isOnlyAt 98 = .ok (.iconst 1, 1) := by decide +kernel
theorem dX11_isOnlyAt_99 : decode cX11_isOnlyAt 99 = .ok (.ireturn, 1) := by decide +kernel
theorem dX11_isOnlyAt_100 : decode cX11_isOnlyAt 100 = .ok (.aload_n 0, 1) := by decide +kernel
theorem dX11_isOnlyAt_101 : decode cX11_isOnlyAt 101 = .ok (.getfield 83, 3) := by decide +kernel
theorem dX11_isOnlyAt_104 : decode cX11_isOnlyAt 104 = .ok (.iconst 2, 1) := by decide +kernel
theorem dX11_isOnlyAt_105 : decode cX11_isOnlyAt 105 = .ok (.iaload, 1) := by decide +kernel
theorem dX11_isOnlyAt_106 : decode cX11_isOnlyAt 106 = .ok (.aload_n 0, 1) := by decide +kernel
theorem dX11_isOnlyAt_107 : decode cX11_isOnlyAt 107 = .ok (.getfield 83, 3) := by decide +kernel
theorem dX11_isOnlyAt_110 : decode cX11_isOnlyAt 110 = .ok (.iconst 0, 1) := by decide +kernel
theorem dX11_isOnlyAt_111 : decode cX11_isOnlyAt 111 = .ok (.iaload, 1) := by decide +kernel
theorem dX11_isOnlyAt_112 : decode cX11_isOnlyAt 112 = .ok (.isub, 1) := by decide +kernel
theorem dX11_isOnlyAt_113 : decode cX11_isOnlyAt 113 = .ok (.i2l, 1) := by decide +kernel
theorem dX11_isOnlyAt_114 : decode cX11_isOnlyAt 114 = .ok (.aload_n 0, 1) := by decide +kernel
theorem dX11_isOnlyAt_115 : decode cX11_isOnlyAt 115 = .ok (.getfield 83, 3) := by decide +kernel
theorem dX11_isOnlyAt_118 : decode cX11_isOnlyAt 118 = .ok (.bipush 7, 2) := by decide +kernel
theorem dX11_isOnlyAt_120 : decode cX11_isOnlyAt 120 = .ok (.iaload, 1) := by decide +kernel
theorem dX11_isOnlyAt_121 : decode cX11_isOnlyAt 121 = .ok (.aload_n 0, 1) := by decide +kernel
theorem dX11_isOnlyAt_122 : decode cX11_isOnlyAt 122 = .ok (.getfield 83, 3) := by decide +kernel
theorem dX11_isOnlyAt_125 : decode cX11_isOnlyAt 125 = .ok (.iconst 5, 1) := by decide +kernel
theorem dX11_isOnlyAt_126 : decode cX11_isOnlyAt 126 = .ok (.iaload, 1) := by decide +kernel
theorem dX11_isOnlyAt_127 : decode cX11_isOnlyAt 127 = .ok (.isub, 1) := by decide +kernel
theorem dX11_isOnlyAt_128 : decode cX11_isOnlyAt 128 = .ok (.i2l, 1) := by decide +kernel
theorem dX11_isOnlyAt_129 : decode cX11_isOnlyAt 129 = .ok (.lmul, 1) := by decide +kernel
theorem dX11_isOnlyAt_130 : decode cX11_isOnlyAt 130 = .ok (.aload_n 0, 1) := by decide +kernel
theorem dX11_isOnlyAt_131 : decode cX11_isOnlyAt 131 = .ok (.getfield 83, 3) := by decide +kernel
theorem dX11_isOnlyAt_134 : decode cX11_isOnlyAt 134 = .ok (.iconst 3, 1) := by decide +kernel
theorem dX11_isOnlyAt_135 : decode cX11_isOnlyAt 135 = .ok (.iaload, 1) := by decide +kernel
theorem dX11_isOnlyAt_136 : decode cX11_isOnlyAt 136 = .ok (.aload_n 0, 1) := by decide +kernel
theorem dX11_isOnlyAt_137 : decode cX11_isOnlyAt 137 = .ok (.getfield 83, 3) := by decide +kernel
theorem dX11_isOnlyAt_140 : decode cX11_isOnlyAt 140 = .ok (.iconst 1, 1) := by decide +kernel
theorem dX11_isOnlyAt_141 : decode cX11_isOnlyAt 141 = .ok (.iaload, 1) := by decide +kernel
theorem dX11_isOnlyAt_142 : decode cX11_isOnlyAt 142 = .ok (.isub, 1) := by decide +kernel
theorem dX11_isOnlyAt_143 : decode cX11_isOnlyAt 143 = .ok (.i2l, 1) := by decide +kernel
theorem dX11_isOnlyAt_144 : decode cX11_isOnlyAt 144 = .ok (.aload_n 0, 1) := by decide +kernel
theorem dX11_isOnlyAt_145 : decode cX11_isOnlyAt 145 = .ok (.getfield 83, 3) := by decide +kernel
theorem dX11_isOnlyAt_148 : decode cX11_isOnlyAt 148 = .ok (.bipush 6, 2) := by decide +kernel
theorem dX11_isOnlyAt_150 : decode cX11_isOnlyAt 150 = .ok (.iaload, 1) := by decide +kernel
theorem dX11_isOnlyAt_151 : decode cX11_isOnlyAt 151 = .ok (.aload_n 0, 1) := by decide +kernel
theorem dX11_isOnlyAt_152 : decode cX11_isOnlyAt 152 = .ok (.getfield 83, 3) := by decide +kernel
theorem dX11_isOnlyAt_155 : decode cX11_isOnlyAt 155 = .ok (.iconst 4, 1) := by decide +kernel
theorem dX11_isOnlyAt_156 : decode cX11_isOnlyAt 156 = .ok (.iaload, 1) := by decide +kernel
theorem dX11_isOnlyAt_157 : decode cX11_isOnlyAt 157 = .ok (.isub, 1) := by decide +kernel
theorem dX11_isOnlyAt_158 : decode cX11_isOnlyAt 158 = .ok (.i2l, 1) := by decide +kernel
theorem dX11_isOnlyAt_159 : decode cX11_isOnlyAt 159 = .ok (.lmul, 1) := by decide +kernel
theorem dX11_isOnlyAt_160 : decode cX11_isOnlyAt 160 = .ok (.lsub, 1) := by decide +kernel
theorem dX11_isOnlyAt_161 : decode cX11_isOnlyAt 161 = .ok (.lstore_n 3, 1) := by decide +kernel
theorem dX11_isOnlyAt_162 : decode cX11_isOnlyAt 162 = .ok (.lload_n 3, 1) := by decide +kernel
theorem dX11_isOnlyAt_163 : decode cX11_isOnlyAt 163 = .ok (.lconst 0, 1) := by decide +kernel
theorem dX11_isOnlyAt_164 : decode cX11_isOnlyAt 164 = .ok (.lcmp, 1) := by decide +kernel
theorem dX11_isOnlyAt_165 : decode cX11_isOnlyAt 165 = .ok (.ifCond .eq 5, 3) := by decide +kernel
theorem dX11_isOnlyAt_168 : decode cX11_isOnlyAt 168 = .ok (.iconst 1, 1) := by decide +kernel
theorem dX11_isOnlyAt_169 : decode cX11_isOnlyAt 169 = .ok (.ireturn, 1) := by decide +kernel
theorem dX11_isOnlyAt_170 : decode cX11_isOnlyAt 170 = .ok (.aload_n 0, 1) := by decide +kernel
theorem dX11_isOnlyAt_171 : decode cX11_isOnlyAt 171 = .ok (.aload_n 0, 1) := by decide +kernel
theorem dX11_isOnlyAt_172 : decode cX11_isOnlyAt 172 = .ok (.getfield 83, 3) := by decide +kernel
theorem dX11_isOnlyAt_175 : decode cX11_isOnlyAt 175 = .ok (.iconst 4, 1) := by decide +kernel
theorem dX11_isOnlyAt_176 : decode cX11_isOnlyAt 176 = .ok (.iaload, 1) := by decide +kernel
theorem dX11_isOnlyAt_177 : decode cX11_isOnlyAt 177 = .ok (.aload_n 0, 1) := by decide +kernel
theorem dX11_isOnlyAt_178 : decode cX11_isOnlyAt 178 = .ok (.getfield 83, 3) := by decide +kernel
theorem dX11_isOnlyAt_181 : decode cX11_isOnlyAt 181 = .ok (.iconst 5, 1) := by decide +kernel
theorem dX11_isOnlyAt_182 : decode cX11_isOnlyAt 182 = .ok (.iaload, 1) := by decide +kernel
theorem dX11_isOnlyAt_183 : decode cX11_isOnlyAt 183 = .ok (.iload_n 1, 1) := by decide +kernel
theorem dX11_isOnlyAt_184 : decode cX11_isOnlyAt 184 = .ok (.iload_n 2, 1) := by decide +kernel
theorem dX11_isOnlyAt_185 : decode cX11_isOnlyAt 185 = .ok (.invokevirtual 241, 3) := by decide +kernel
theorem dX11_isOnlyAt_188 : decode cX11_isOnlyAt 188 = .ok (.ifCond .ne 30, 3) := by decide +kernel
theorem dX11_isOnlyAt_191 : decode cX11_isOnlyAt 191 = .ok (.aload_n 0, 1) := by decide +kernel
theorem dX11_isOnlyAt_192 : decode cX11_isOnlyAt 192 = .ok (.aload_n 0, 1) := by decide +kernel
theorem dX11_isOnlyAt_193 : decode cX11_isOnlyAt 193 = .ok (.getfield 83, 3) := by decide +kernel
theorem dX11_isOnlyAt_196 : decode cX11_isOnlyAt 196 = .ok (.bipush 6, 2) := by decide +kernel
theorem dX11_isOnlyAt_198 : decode cX11_isOnlyAt 198 = .ok (.iaload, 1) := by decide +kernel
theorem dX11_isOnlyAt_199 : decode cX11_isOnlyAt 199 = .ok (.aload_n 0, 1) := by decide +kernel
theorem dX11_isOnlyAt_200 : decode cX11_isOnlyAt 200 = .ok (.getfield 83, 3) := by decide +kernel
theorem dX11_isOnlyAt_203 : decode cX11_isOnlyAt 203 = .ok (.bipush 7, 2) := by decide +kernel
theorem dX11_isOnlyAt_205 : decode cX11_isOnlyAt 205 = .ok (.iaload, 1) := by decide +kernel
theorem dX11_isOnlyAt_206 : decode cX11_isOnlyAt 206 = .ok (.iload_n 1, 1) := by decide +kernel
theorem dX11_isOnlyAt_207 : decode cX11_isOnlyAt 207 = .ok (.iload_n 2, 1) := by decide +kernel
theorem dX11_isOnlyAt_208 : decode cX11_isOnlyAt 208 = .ok (.invokevirtual 241, 3) := by decide +kernel
theorem dX11_isOnlyAt_211 : decode cX11_isOnlyAt 211 = .ok (.ifCond .ne 7, 3) := by decide +kernel
theorem dX11_isOnlyAt_214 : decode cX11_isOnlyAt 214 = .ok (.iconst 1, 1) := by decide +kernel
theorem dX11_isOnlyAt_215 : decode cX11_isOnlyAt 215 = .ok (.goto 4, 3) := by decide +kernel
theorem dX11_isOnlyAt_218 : decode cX11_isOnlyAt 218 = .ok (.iconst 0, 1) := by decide +kernel
theorem dX11_isOnlyAt_219 : decode cX11_isOnlyAt 219 = .ok (.ireturn, 1) := by decide +kernel
theorem dX11_isAhead_0 : decode cX11_isAhead 0 = .ok (.iload_n 1, 1) := by decide +kernel
theorem dX11_isAhead_1 : decode cX11_isAhead 1 = .ok (.iload_n 3, 1) := by decide +kernel
theorem dX11_isAhead_2 : decode cX11_isAhead 2 = .ok (.isub, 1) := by decide +kernel
theorem dX11_isAhead_3 : decode cX11_isAhead 3 = .ok (.i2l, 1) := by decide +kernel
theorem dX11_isAhead_4 : decode cX11_isAhead 4 = .ok (.aload_n 0, 1) := by decide +kernel
theorem dX11_isAhead_5 : decode cX11_isAhead 5 = .ok (.getfield 83, 3) := by decide +kernel
theorem dX11_isAhead_8 : decode cX11_isAhead 8 = .ok (.iconst 2, 1) := by decide +kernel
theorem dX11_isAhead_9 : decode cX11_isAhead 9 = .ok (.iaload, 1) := by decide +kernel
theorem dX11_isAhead_10 : decode cX11_isAhead 10 = .ok (.iload_n 3, 1) := by decide +kernel
theorem dX11_isAhead_11 : decode cX11_isAhead 11 = .ok (.isub, 1) := by decide +kernel
theorem dX11_isAhead_12 : decode cX11_isAhead 12 = .ok (.i2l, 1) := by decide +kernel
theorem dX11_isAhead_13 : decode cX11_isAhead 13 = .ok (.lmul, 1) := by decide +kernel
theorem dX11_isAhead_14 : decode cX11_isAhead 14 = .ok (.iload_n 2, 1) := by decide +kernel
theorem dX11_isAhead_15 : decode cX11_isAhead 15 = .ok (.iload 4, 2) := by decide +kernel
theorem dX11_isAhead_17 : decode cX11_isAhead 17 = .ok (.isub, 1) := by decide +kernel
theorem dX11_isAhead_18 : decode cX11_isAhead 18 = .ok (.i2l, 1) := by decide +kernel
theorem dX11_isAhead_19 : decode cX11_isAhead 19 = .ok (.aload_n 0, 1) := by decide +kernel
theorem dX11_isAhead_20 : decode cX11_isAhead 20 = .ok (.getfield 83, 3) := by decide +kernel
theorem dX11_isAhead_23 : decode cX11_isAhead 23 = .ok (.iconst 3, 1) := by decide +kernel
theorem dX11_isAhead_24 : decode cX11_isAhead 24 = .ok (.iaload, 1) := by decide +kernel
theorem dX11_isAhead_25 : decode cX11_isAhead 25 = .ok (.iload 4, 2) := by decide +kernel
theorem dX11_isAhead_27 : decode cX11_isAhead 27 = .ok (.isub, 1) := by decide +kernel
theorem dX11_isAhead_28 : decode cX11_isAhead 28 = .ok (.i2l, 1) := by decide +kernel
theorem dX11_isAhead_29 : decode cX11_isAhead 29 = .ok (.lmul, 1) := by decide +kernel
theorem dX11_isAhead_30 : decode cX11_isAhead 30 = .ok (.ladd, 1) := by decide +kernel
theorem dX11_isAhead_31 : decode cX11_isAhead 31 = .ok (.lconst 0, 1) := by decide +kernel
theorem dX11_isAhead_32 : decode cX11_isAhead 32 = .ok (.lcmp, 1) := by decide +kernel
theorem dX11_isAhead_33 : decode cX11_isAhead 33 = .ok (.ifCond .le 7, 3) := by decide +kernel
theorem dX11_isAhead_36 : decode cX11_isAhead 36 = .ok (.iconst 1, 1) := by decide +kernel
theorem dX11_isAhead_37 : decode cX11_isAhead 37 = .ok (.goto 4, 3) := by decide +kernel
theorem dX11_isAhead_40 : decode cX11_isAhead 40 = .ok (.iconst 0, 1) := by decide +kernel
theorem dX11_isAhead_41 : decode cX11_isAhead 41 = .ok (.ireturn, 1) := by decide +kernel
theorem dX11_write_0 : decode cX11_write 0 = .ok (.aload_n 0, 1) := by decide +kernel
theorem dX11_write_1 : decode cX11_write 1 = .ok (.getfield 244, 3) := by decide +kernel
theorem dX11_write_4 : decode cX11_write 4 = .ok (.aload_n 0, 1) := by decide +kernel
theorem dX11_write_5 : decode cX11_write 5 = .ok (.getfield 74, 3) := by decide +kernel
theorem dX11_write_8 : decode cX11_write 8 = .ok (.arraylength, 1) := by decide +kernel
theorem dX11_write_9 : decode cX11_write 9 = .ok (.if_icmp .ne 42, 3) := by decide +kernel
theorem dX11_write_12 : decode cX11_write 12 = .ok (.iconst 2, 1) := by decide +kernel
theorem dX11_write_13 : decode cX11_write 13 = .ok (.aload_n 0, 1) := by decide +kernel
theorem dX11_write_14 : decode cX11_write 14 = .ok (.getfield 244, 3) := by decide +kernel
theorem dX11_write_17 : decode cX11_write 17 = .ok (.imul, 1) := by decide +kernel
theorem dX11_write_18 : decode cX11_write 18 = .ok (.newarray .int, 2) := by decide +kernel
theorem dX11_write_20 : decode cX11_write 20 = .ok (.astore_n 2, 1) := by decide +kernel
theorem dX11_write_21 : decode cX11_write 21 = .ok (.iconst 0, 1) := by decide +kernel
theorem dX11_write_22 : decode cX11_write 22 = .ok (.istore_n 3, 1) := by decide +kernel
theorem dX11_write_23 : decode cX11_write 23 = .ok (.iload_n 3, 1) := by decide +kernel
theorem dX11_write_24 : decode cX11_write 24 = .ok (.aload_n 0, 1) := by decide +kernel
theorem dX11_write_25 : decode cX11_write 25 = .ok (.getfield 244, 3) := by decide +kernel
theorem dX11_write_28 : decode cX11_write 28 = .ok (.if_icmp .ge 18, 3) := by decide +kernel
theorem dX11_write_31 : decode cX11_write 31 = .ok (.aload_n 2, 1) := by decide +kernel
theorem dX11_write_32 : decode cX11_write 32 = .ok (.iload_n 3, 1) := by decide +kernel
theorem dX11_write_33 : decode cX11_write 33 = .ok (.aload_n 0, 1) := by decide +kernel
theorem dX11_write_34 : decode cX11_write 34 = .ok (.getfield 74, 3) := by decide +kernel
theorem dX11_write_37 : decode cX11_write 37 = .ok (.iload_n 3, 1) := by decide +kernel
theorem dX11_write_38 : decode cX11_write 38 = .ok (.iaload, 1) := by decide +kernel
theorem dX11_write_39 : decode cX11_write 39 = .ok (.iastore, 1) := by decide +kernel
theorem dX11_write_40 : decode cX11_write 40 = .ok (.iinc 3 1, 3) := by decide +kernel
theorem dX11_write_43 : decode cX11_write 43 = .ok (.goto (-20), 3) := by decide +kernel
theorem dX11_write_46 : decode cX11_write 46 = .ok (.aload_n 0, 1) := by decide +kernel
theorem dX11_write_47 : decode cX11_write 47 = .ok (.aload_n 2, 1) := by decide +kernel
theorem dX11_write_48 : decode cX11_write 48 = .ok (.putfield 74, 3) := by decide +kernel
theorem dX11_write_51 : decode cX11_write 51 = .ok (.aload_n 0, 1) := by decide +kernel
theorem dX11_write_52 : decode cX11_write 52 = .ok (.getfield 74, 3) := by decide +kernel
theorem dX11_write_55 : decode cX11_write 55 = .ok (.aload_n 0, 1) := by decide +kernel
theorem dX11_write_56 : decode cX11_write 56 = .ok (.getfield 244, 3) := by decide +kernel
theorem dX11_write_59 : decode cX11_write 59 = .ok (.iload_n 1, 1) := by decide +kernel
theorem dX11_write_60 : decode cX11_write 60 = .ok (.iastore, 1) := by decide +kernel
theorem dX11_write_61 : decode cX11_write 61 = .ok (.aload_n 0, 1) := by decide +kernel
theorem dX11_write_62 : decode cX11_write 62 = .ok (.dup, 1) := by decide +kernel
theorem dX11_write_63 : decode cX11_write 63 = .ok (.getfield 244, 3) := by decide +kernel
theorem dX11_write_66 : decode cX11_write 66 = .ok (.iconst 1, 1) := by decide +kernel
theorem dX11_write_67 : decode cX11_write 67 = .ok (.iadd, 1) := by decide +kernel
theorem dX11_write_68 : decode cX11_write 68 = .ok (.putfield 244, 3) := by decide +kernel
theorem dX11_write_71 : decode cX11_write 71 = .ok (.return_, 1) := by decide +kernel
theorem dX11_keep_0 : decode cX11_keep 0 = .ok (.aload_n 0, 1) := by decide +kernel
theorem dX11_keep_1 : decode cX11_keep 1 = .ok (.aload_n 0, 1) := by decide +kernel
theorem dX11_keep_2 : decode cX11_keep 2 = .ok (.getfield 71, 3) := by decide +kernel
theorem dX11_keep_5 : decode cX11_keep 5 = .ok (.iload_n 1, 1) := by decide +kernel
theorem dX11_keep_6 : decode cX11_keep 6 = .ok (.iaload, 1) := by decide +kernel
theorem dX11_keep_7 : decode cX11_keep 7 = .ok (.putfield 244, 3) := by decide +kernel
theorem dX11_keep_10 : decode cX11_keep 10 = .ok (.aload_n 0, 1) := by decide +kernel
theorem dX11_keep_11 : decode cX11_keep 11 = .ok (.aload_n 0, 1) := by decide +kernel
theorem dX11_keep_12 : decode cX11_keep 12 = .ok (.getfield 130, 3) := by decide +kernel
theorem dX11_keep_15 : decode cX11_keep 15 = .ok (.invokevirtual 247, 3) := by decide +kernel
theorem dX11_keep_18 : decode cX11_keep 18 = .ok (.iconst 0, 1) := by decide +kernel
theorem dX11_keep_19 : decode cX11_keep 19 = .ok (.istore_n 2, 1) := by decide +kernel
theorem dX11_keep_20 : decode cX11_keep 20 = .ok (.iload_n 2, 1) := by decide +kernel
theorem dX11_keep_21 : decode cX11_keep 21 = .ok (.aload_n 0, 1) := by decide +kernel
theorem dX11_keep_22 : decode cX11_keep 22 = .ok (.getfield 130, 3) := by decide +kernel
theorem dX11_keep_25 : decode cX11_keep 25 = .ok (.if_icmp .ge 180, 3) := by decide +kernel
theorem dX11_keep_28 : decode cX11_keep 28 = .ok (.aload_n 0, 1) := by decide +kernel
theorem dX11_keep_29 : decode cX11_keep 29 = .ok (.aload_n 0, 1) := by decide +kernel
theorem dX11_keep_30 : decode cX11_keep 30 = .ok (.getfield 7, 3) := by decide +kernel
theorem dX11_keep_33 : decode cX11_keep 33 = .ok (.iload_n 2, 1) := by decide +kernel
theorem dX11_keep_34 : decode cX11_keep 34 = .ok (.iaload, 1) := by decide +kernel
theorem dX11_keep_35 : decode cX11_keep 35 = .ok (.invokevirtual 247, 3) := by decide +kernel
theorem dX11_keep_38 : decode cX11_keep 38 = .ok (.aload_n 0, 1) := by decide +kernel
theorem dX11_keep_39 : decode cX11_keep 39 = .ok (.aload_n 0, 1) := by decide +kernel
theorem dX11_keep_40 : decode cX11_keep 40 = .ok (.getfield 22, 3) := by decide +kernel
theorem dX11_keep_43 : decode cX11_keep 43 = .ok (.iload_n 2, 1) := by decide +kernel
theorem dX11_keep_44 : decode cX11_keep 44 = .ok (.iaload, 1) := by decide +kernel
theorem dX11_keep_45 : decode cX11_keep 45 = .ok (.invokevirtual 247, 3) := by decide +kernel
theorem dX11_keep_48 : decode cX11_keep 48 = .ok (.aload_n 0, 1) := by decide +kernel
theorem dX11_keep_49 : decode cX11_keep 49 = .ok (.aload_n 0, 1) := by decide +kernel
theorem dX11_keep_50 : decode cX11_keep 50 = .ok (.getfield 29, 3) := by decide +kernel
theorem dX11_keep_53 : decode cX11_keep 53 = .ok (.iload_n 2, 1) := by decide +kernel
theorem dX11_keep_54 : decode cX11_keep 54 = .ok (.iaload, 1) := by decide +kernel
theorem dX11_keep_55 : decode cX11_keep 55 = .ok (.invokevirtual 247, 3) := by decide +kernel
theorem dX11_keep_58 : decode cX11_keep 58 = .ok (.aload_n 0, 1) := by decide +kernel
theorem dX11_keep_59 : decode cX11_keep 59 = .ok (.aload_n 0, 1) := by decide +kernel
theorem dX11_keep_60 : decode cX11_keep 60 = .ok (.getfield 38, 3) := by decide +kernel
theorem dX11_keep_63 : decode cX11_keep 63 = .ok (.iload_n 2, 1) := by decide +kernel
theorem dX11_keep_64 : decode cX11_keep 64 = .ok (.iaload, 1) := by decide +kernel
theorem dX11_keep_65 : decode cX11_keep 65 = .ok (.invokevirtual 247, 3) := by decide +kernel
theorem dX11_keep_68 : decode cX11_keep 68 = .ok (.aload_n 0, 1) := by decide +kernel
theorem dX11_keep_69 : decode cX11_keep 69 = .ok (.aload_n 0, 1) := by decide +kernel
theorem dX11_keep_70 : decode cX11_keep 70 = .ok (.getfield 32, 3) := by decide +kernel
theorem dX11_keep_73 : decode cX11_keep 73 = .ok (.iload_n 2, 1) := by decide +kernel
theorem dX11_keep_74 : decode cX11_keep 74 = .ok (.iaload, 1) := by decide +kernel
theorem dX11_keep_75 : decode cX11_keep 75 = .ok (.invokevirtual 247, 3) := by decide +kernel
theorem dX11_keep_78 : decode cX11_keep 78 = .ok (.aload_n 0, 1) := by decide +kernel
theorem dX11_keep_79 : decode cX11_keep 79 = .ok (.aload_n 0, 1) := by decide +kernel
theorem dX11_keep_80 : decode cX11_keep 80 = .ok (.getfield 35, 3) := by decide +kernel
theorem dX11_keep_83 : decode cX11_keep 83 = .ok (.iload_n 2, 1) := by decide +kernel
theorem dX11_keep_84 : decode cX11_keep 84 = .ok (.iaload, 1) := by decide +kernel
theorem dX11_keep_85 : decode cX11_keep 85 = .ok (.invokevirtual 247, 3) := by decide +kernel
theorem dX11_keep_88 : decode cX11_keep 88 = .ok (.aload_n 0, 1) := by decide +kernel
theorem dX11_keep_89 : decode cX11_keep 89 = .ok (.aload_n 0, 1) := by decide +kernel
theorem dX11_keep_90 : decode cX11_keep 90 = .ok (.getfield 13, 3) := by decide +kernel
theorem dX11_keep_93 : decode cX11_keep 93 = .ok (.iload_n 2, 1) := by decide +kernel
theorem dX11_keep_94 : decode cX11_keep 94 = .ok (.iaload, 1) := by decide +kernel
theorem dX11_keep_95 : decode cX11_keep 95 = .ok (.invokevirtual 247, 3) := by decide +kernel
theorem dX11_keep_98 : decode cX11_keep 98 = .ok (.aload_n 0, 1) := by decide +kernel
theorem dX11_keep_99 : decode cX11_keep 99 = .ok (.aload_n 0, 1) := by decide +kernel
theorem dX11_keep_100 : decode cX11_keep 100 = .ok (.getfield 16, 3) := by decide +kernel
theorem dX11_keep_103 : decode cX11_keep 103 = .ok (.iload_n 2, 1) := by decide +kernel
theorem dX11_keep_104 : decode cX11_keep 104 = .ok (.iaload, 1) := by decide +kernel
theorem dX11_keep_105 : decode cX11_keep 105 = .ok (.invokevirtual 247, 3) := by decide +kernel
theorem dX11_keep_108 : decode cX11_keep 108 = .ok (.aload_n 0, 1) := by decide +kernel
theorem dX11_keep_109 : decode cX11_keep 109 = .ok (.aload_n 0, 1) := by decide +kernel
theorem dX11_keep_110 : decode cX11_keep 110 = .ok (.getfield 19, 3) := by decide +kernel
theorem dX11_keep_113 : decode cX11_keep 113 = .ok (.iload_n 2, 1) := by decide +kernel
theorem dX11_keep_114 : decode cX11_keep 114 = .ok (.iaload, 1) := by decide +kernel
theorem dX11_keep_115 : decode cX11_keep 115 = .ok (.invokevirtual 247, 3) := by decide +kernel
theorem dX11_keep_118 : decode cX11_keep 118 = .ok (.aload_n 0, 1) := by decide +kernel
theorem dX11_keep_119 : decode cX11_keep 119 = .ok (.getfield 25, 3) := by decide +kernel
theorem dX11_keep_122 : decode cX11_keep 122 = .ok (.iload_n 2, 1) := by decide +kernel
theorem dX11_keep_123 : decode cX11_keep 123 = .ok (.baload, 1) := by decide +kernel
theorem dX11_keep_124 : decode cX11_keep 124 = .ok (.ifCond .ne 12, 3) := by decide +kernel
theorem dX11_keep_127 : decode cX11_keep 127 = .ok (.aload_n 0, 1) := by decide +kernel
theorem dX11_keep_128 : decode cX11_keep 128 = .ok (.getfield 22, 3) := by decide +kernel
theorem dX11_keep_131 : decode cX11_keep 131 = .ok (.iload_n 2, 1) := by decide +kernel
theorem dX11_keep_132 : decode cX11_keep 132 = .ok (.iaload, 1) := by decide +kernel
theorem dX11_keep_133 : decode cX11_keep 133 = .ok (.ifCond .ne 7, 3) := by decide +kernel
theorem dX11_keep_136 : decode cX11_keep 136 = .ok (.iconst 0, 1) := by decide +kernel
theorem dX11_keep_137 : decode cX11_keep 137 = .ok (.goto 9, 3) := by decide +kernel
theorem dX11_keep_140 : decode cX11_keep 140 = .ok (.aload_n 0, 1) := by decide +kernel
theorem dX11_keep_141 : decode cX11_keep 141 = .ok (.getfield 41, 3) := by decide +kernel
theorem dX11_keep_144 : decode cX11_keep 144 = .ok (.iload_n 2, 1) := by decide +kernel
theorem dX11_keep_145 : decode cX11_keep 145 = .ok (.iaload, 1) := by decide +kernel
theorem dX11_keep_146 : decode cX11_keep 146 = .ok (.istore_n 3, 1) := by decide +kernel
theorem dX11_keep_147 : decode cX11_keep 147 = .ok (.aload_n 0, 1) := by decide +kernel
theorem dX11_keep_148 : decode cX11_keep 148 = .ok (.iload_n 3, 1) := by decide +kernel
theorem dX11_keep_149 : decode cX11_keep 149 = .ok (.invokevirtual 247, 3) := by decide +kernel
theorem dX11_keep_152 : decode cX11_keep 152 = .ok (.iconst 0, 1) := by decide +kernel
theorem dX11_keep_153 : decode cX11_keep 153 = .ok (.istore 4, 2) := by decide +kernel
theorem dX11_keep_155 : decode cX11_keep 155 = .ok (.iload 4, 2) := by decide +kernel
theorem dX11_keep_157 : decode cX11_keep 157 = .ok (.iload_n 3, 1) := by decide +kernel
theorem dX11_keep_158 : decode cX11_keep 158 = .ok (.if_icmp .ge 41, 3) := by decide +kernel
theorem dX11_keep_161 : decode cX11_keep 161 = .ok (.aload_n 0, 1) := by decide +kernel
theorem dX11_keep_162 : decode cX11_keep 162 = .ok (.aload_n 0, 1) := by decide +kernel
theorem dX11_keep_163 : decode cX11_keep 163 = .ok (.getfield 44, 3) := by decide +kernel
theorem dX11_keep_166 : decode cX11_keep 166 = .ok (.bipush 40, 2) := by decide +kernel
theorem dX11_keep_168 : decode cX11_keep 168 = .ok (.iload_n 2, 1) := by decide +kernel
theorem dX11_keep_169 : decode cX11_keep 169 = .ok (.imul, 1) := by decide +kernel
theorem dX11_keep_170 : decode cX11_keep 170 = .ok (.iload 4, 2) := by decide +kernel
theorem dX11_keep_172 : decode cX11_keep 172 = .ok (.iadd, 1) := by decide +kernel
theorem dX11_keep_173 : decode cX11_keep 173 = .ok (.iaload, 1) := by decide +kernel
theorem dX11_keep_174 : decode cX11_keep 174 = .ok (.invokevirtual 247, 3) := by decide +kernel
theorem dX11_keep_177 : decode cX11_keep 177 = .ok (.aload_n 0, 1) := by decide +kernel
theorem dX11_keep_178 : decode cX11_keep 178 = .ok (.aload_n 0, 1) := by decide +kernel
theorem dX11_keep_179 : decode cX11_keep 179 = .ok (.getfield 47, 3) := by decide +kernel
theorem dX11_keep_182 : decode cX11_keep 182 = .ok (.bipush 40, 2) := by decide +kernel
theorem dX11_keep_184 : decode cX11_keep 184 = .ok (.iload_n 2, 1) := by decide +kernel
theorem dX11_keep_185 : decode cX11_keep 185 = .ok (.imul, 1) := by decide +kernel
theorem dX11_keep_186 : decode cX11_keep 186 = .ok (.iload 4, 2) := by decide +kernel
theorem dX11_keep_188 : decode cX11_keep 188 = .ok (.iadd, 1) := by decide +kernel
theorem dX11_keep_189 : decode cX11_keep 189 = .ok (.iaload, 1) := by decide +kernel
theorem dX11_keep_190 : decode cX11_keep 190 = .ok (.invokevirtual 247, 3) := by decide +kernel
theorem dX11_keep_193 : decode cX11_keep 193 = .ok (.iinc 4 1, 3) := by decide +kernel
theorem dX11_keep_196 : decode cX11_keep 196 = .ok (.goto (-41), 3) := by decide +kernel
theorem dX11_keep_199 : decode cX11_keep 199 = .ok (.iinc 2 1, 3) := by decide +kernel
theorem dX11_keep_202 : decode cX11_keep 202 = .ok (.goto (-182), 3) := by decide +kernel
theorem dX11_keep_205 : decode cX11_keep 205 = .ok (.aload_n 0, 1) := by decide +kernel
theorem dX11_keep_206 : decode cX11_keep 206 = .ok (.getfield 71, 3) := by decide +kernel
theorem dX11_keep_209 : decode cX11_keep 209 = .ok (.iload_n 1, 1) := by decide +kernel
theorem dX11_keep_210 : decode cX11_keep 210 = .ok (.iconst 1, 1) := by decide +kernel
theorem dX11_keep_211 : decode cX11_keep 211 = .ok (.iadd, 1) := by decide +kernel
theorem dX11_keep_212 : decode cX11_keep 212 = .ok (.aload_n 0, 1) := by decide +kernel
theorem dX11_keep_213 : decode cX11_keep 213 = .ok (.getfield 244, 3) := by decide +kernel
theorem dX11_keep_216 : decode cX11_keep 216 = .ok (.iastore, 1) := by decide +kernel
theorem dX11_keep_217 : decode cX11_keep 217 = .ok (.return_, 1) := by decide +kernel
theorem dX11_next_0 : decode cX11_next 0 = .ok (.aload_n 0, 1) := by decide +kernel
theorem dX11_next_1 : decode cX11_next 1 = .ok (.dup, 1) := by decide +kernel
theorem dX11_next_2 : decode cX11_next 2 = .ok (.getfield 250, 3) := by decide +kernel
theorem dX11_next_5 : decode cX11_next 5 = .ok (.iconst 1, 1) := by decide +kernel
theorem dX11_next_6 : decode cX11_next 6 = .ok (.iadd, 1) := by decide +kernel
theorem dX11_next_7 : decode cX11_next 7 = .ok (.putfield 250, 3) := by decide +kernel
theorem dX11_next_10 : decode cX11_next 10 = .ok (.aload_n 0, 1) := by decide +kernel
theorem dX11_next_11 : decode cX11_next 11 = .ok (.getfield 74, 3) := by decide +kernel
theorem dX11_next_14 : decode cX11_next 14 = .ok (.aload_n 0, 1) := by decide +kernel
theorem dX11_next_15 : decode cX11_next 15 = .ok (.getfield 250, 3) := by decide +kernel
theorem dX11_next_18 : decode cX11_next 18 = .ok (.iconst 1, 1) := by decide +kernel
theorem dX11_next_19 : decode cX11_next 19 = .ok (.isub, 1) := by decide +kernel
theorem dX11_next_20 : decode cX11_next 20 = .ok (.iaload, 1) := by decide +kernel
theorem dX11_next_21 : decode cX11_next 21 = .ok (.ireturn, 1) := by decide +kernel
theorem dX11_restore_0 : decode cX11_restore 0 = .ok (.aload_n 0, 1) := by decide +kernel
theorem dX11_restore_1 : decode cX11_restore 1 = .ok (.aload_n 0, 1) := by decide +kernel
theorem dX11_restore_2 : decode cX11_restore 2 = .ok (.getfield 71, 3) := by decide +kernel
theorem dX11_restore_5 : decode cX11_restore 5 = .ok (.iload_n 1, 1) := by decide +kernel
theorem dX11_restore_6 : decode cX11_restore 6 = .ok (.iaload, 1) := by decide +kernel
theorem dX11_restore_7 : decode cX11_restore 7 = .ok (.putfield 250, 3) := by decide +kernel
theorem dX11_restore_10 : decode cX11_restore 10 = .ok (.aload_n 0, 1) := by decide +kernel
theorem dX11_restore_11 : decode cX11_restore 11 = .ok (.aload_n 0, 1) := by decide +kernel
theorem dX11_restore_12 : decode cX11_restore 12 = .ok (.invokevirtual 253, 3) := by decide +kernel
theorem dX11_restore_15 : decode cX11_restore 15 = .ok (.putfield 130, 3) := by decide +kernel
theorem dX11_restore_18 : decode cX11_restore 18 = .ok (.iconst 0, 1) := by decide +kernel
theorem dX11_restore_19 : decode cX11_restore 19 = .ok (.istore_n 2, 1) := by decide +kernel
theorem dX11_restore_20 : decode cX11_restore 20 = .ok (.iload_n 2, 1) := by decide +kernel
theorem dX11_restore_21 : decode cX11_restore 21 = .ok (.aload_n 0, 1) := by decide +kernel
theorem dX11_restore_22 : decode cX11_restore 22 = .ok (.getfield 130, 3) := by decide +kernel
theorem dX11_restore_25 : decode cX11_restore 25 = .ok (.if_icmp .ge 176, 3) := by decide +kernel
theorem dX11_restore_28 : decode cX11_restore 28 = .ok (.aload_n 0, 1) := by decide +kernel
theorem dX11_restore_29 : decode cX11_restore 29 = .ok (.getfield 7, 3) := by decide +kernel
theorem dX11_restore_32 : decode cX11_restore 32 = .ok (.iload_n 2, 1) := by decide +kernel
theorem dX11_restore_33 : decode cX11_restore 33 = .ok (.aload_n 0, 1) := by decide +kernel
theorem dX11_restore_34 : decode cX11_restore 34 = .ok (.invokevirtual 253, 3) := by decide +kernel
theorem dX11_restore_37 : decode cX11_restore 37 = .ok (.iastore, 1) := by decide +kernel
theorem dX11_restore_38 : decode cX11_restore 38 = .ok (.aload_n 0, 1) := by decide +kernel
theorem dX11_restore_39 : decode cX11_restore 39 = .ok (.getfield 22, 3) := by decide +kernel
theorem dX11_restore_42 : decode cX11_restore 42 = .ok (.iload_n 2, 1) := by decide +kernel
theorem dX11_restore_43 : decode cX11_restore 43 = .ok (.aload_n 0, 1) := by decide +kernel
theorem dX11_restore_44 : decode cX11_restore 44 = .ok (.invokevirtual 253, 3) := by decide +kernel
theorem dX11_restore_47 : decode cX11_restore 47 = .ok (.iastore, 1) := by decide +kernel
theorem dX11_restore_48 : decode cX11_restore 48 = .ok (.aload_n 0, 1) := by decide +kernel
theorem dX11_restore_49 : decode cX11_restore 49 = .ok (.getfield 29, 3) := by decide +kernel
theorem dX11_restore_52 : decode cX11_restore 52 = .ok (.iload_n 2, 1) := by decide +kernel
theorem dX11_restore_53 : decode cX11_restore 53 = .ok (.aload_n 0, 1) := by decide +kernel
theorem dX11_restore_54 : decode cX11_restore 54 = .ok (.invokevirtual 253, 3) := by decide +kernel
theorem dX11_restore_57 : decode cX11_restore 57 = .ok (.iastore, 1) := by decide +kernel
theorem dX11_restore_58 : decode cX11_restore 58 = .ok (.aload_n 0, 1) := by decide +kernel
theorem dX11_restore_59 : decode cX11_restore 59 = .ok (.getfield 38, 3) := by decide +kernel
theorem dX11_restore_62 : decode cX11_restore 62 = .ok (.iload_n 2, 1) := by decide +kernel
theorem dX11_restore_63 : decode cX11_restore 63 = .ok (.aload_n 0, 1) := by decide +kernel
theorem dX11_restore_64 : decode cX11_restore 64 = .ok (.invokevirtual 253, 3) := by decide +kernel
theorem dX11_restore_67 : decode cX11_restore 67 = .ok (.iastore, 1) := by decide +kernel
theorem dX11_restore_68 : decode cX11_restore 68 = .ok (.aload_n 0, 1) := by decide +kernel
theorem dX11_restore_69 : decode cX11_restore 69 = .ok (.getfield 32, 3) := by decide +kernel
theorem dX11_restore_72 : decode cX11_restore 72 = .ok (.iload_n 2, 1) := by decide +kernel
theorem dX11_restore_73 : decode cX11_restore 73 = .ok (.aload_n 0, 1) := by decide +kernel
theorem dX11_restore_74 : decode cX11_restore 74 = .ok (.invokevirtual 253, 3) := by decide +kernel
theorem dX11_restore_77 : decode cX11_restore 77 = .ok (.iastore, 1) := by decide +kernel
theorem dX11_restore_78 : decode cX11_restore 78 = .ok (.aload_n 0, 1) := by decide +kernel
theorem dX11_restore_79 : decode cX11_restore 79 = .ok (.getfield 35, 3) := by decide +kernel
theorem dX11_restore_82 : decode cX11_restore 82 = .ok (.iload_n 2, 1) := by decide +kernel
theorem dX11_restore_83 : decode cX11_restore 83 = .ok (.aload_n 0, 1) := by decide +kernel
theorem dX11_restore_84 : decode cX11_restore 84 = .ok (.invokevirtual 253, 3) := by decide +kernel
theorem dX11_restore_87 : decode cX11_restore 87 = .ok (.iastore, 1) := by decide +kernel
theorem dX11_restore_88 : decode cX11_restore 88 = .ok (.aload_n 0, 1) := by decide +kernel
theorem dX11_restore_89 : decode cX11_restore 89 = .ok (.getfield 13, 3) := by decide +kernel
theorem dX11_restore_92 : decode cX11_restore 92 = .ok (.iload_n 2, 1) := by decide +kernel
theorem dX11_restore_93 : decode cX11_restore 93 = .ok (.aload_n 0, 1) := by decide +kernel
theorem dX11_restore_94 : decode cX11_restore 94 = .ok (.invokevirtual 253, 3) := by decide +kernel
theorem dX11_restore_97 : decode cX11_restore 97 = .ok (.iastore, 1) := by decide +kernel
theorem dX11_restore_98 : decode cX11_restore 98 = .ok (.aload_n 0, 1) := by decide +kernel
theorem dX11_restore_99 : decode cX11_restore 99 = .ok (.getfield 16, 3) := by decide +kernel
theorem dX11_restore_102 : decode cX11_restore 102 = .ok (.iload_n 2, 1) := by decide +kernel
theorem dX11_restore_103 : decode cX11_restore 103 = .ok (.aload_n 0, 1) := by decide +kernel
theorem dX11_restore_104 : decode cX11_restore 104 = .ok (.invokevirtual 253, 3) := by decide +kernel
theorem dX11_restore_107 : decode cX11_restore 107 = .ok (.iastore, 1) := by decide +kernel
theorem dX11_restore_108 : decode cX11_restore 108 = .ok (.aload_n 0, 1) := by decide +kernel
theorem dX11_restore_109 : decode cX11_restore 109 = .ok (.getfield 19, 3) := by decide +kernel
theorem dX11_restore_112 : decode cX11_restore 112 = .ok (.iload_n 2, 1) := by decide +kernel
theorem dX11_restore_113 : decode cX11_restore 113 = .ok (.aload_n 0, 1) := by decide +kernel
theorem dX11_restore_114 : decode cX11_restore 114 = .ok (.invokevirtual 253, 3) := by decide +kernel
theorem dX11_restore_117 : decode cX11_restore 117 = .ok (.iastore, 1) := by decide +kernel
theorem dX11_restore_118 : decode cX11_restore 118 = .ok (.aload_n 0, 1) := by decide +kernel
theorem dX11_restore_119 : decode cX11_restore 119 = .ok (.invokevirtual 253, 3) := by decide +kernel
theorem dX11_restore_122 : decode cX11_restore 122 = .ok (.istore_n 3, 1) := by decide +kernel
theorem dX11_restore_123 : decode cX11_restore 123 = .ok (.aload_n 0, 1) := by decide +kernel
theorem dX11_restore_124 : decode cX11_restore 124 = .ok (.getfield 22, 3) := by decide +kernel
theorem dX11_restore_127 : decode cX11_restore 127 = .ok (.iload_n 2, 1) := by decide +kernel
theorem dX11_restore_128 : decode cX11_restore 128 = .ok (.iaload, 1) := by decide +kernel
theorem dX11_restore_129 : decode cX11_restore 129 = .ok (.ifCond .eq 19, 3) := by decide +kernel
theorem dX11_restore_132 : decode cX11_restore 132 = .ok (.aload_n 0, 1) := by decide +kernel
theorem dX11_restore_133 : decode cX11_restore 133 = .ok (.getfield 25, 3) := by decide +kernel
theorem dX11_restore_136 : decode cX11_restore 136 = .ok (.iload_n 2, 1) := by decide +kernel
theorem dX11_restore_137 : decode cX11_restore 137 = .ok (.baload, 1) := by decide +kernel
theorem dX11_restore_138 : decode cX11_restore 138 = .ok (.ifCond .ne 10, 3) := by decide +kernel
theorem dX11_restore_141 : decode cX11_restore 141 = .ok (.aload_n 0, 1) := by decide +kernel
theorem dX11_restore_142 : decode cX11_restore 142 = .ok (.getfield 41, 3) := by decide +kernel
theorem dX11_restore_145 : decode cX11_restore 145 = .ok (.iload_n 2, 1) := by decide +kernel
theorem dX11_restore_146 : decode cX11_restore 146 = .ok (.iload_n 3, 1) := by decide +kernel
theorem dX11_restore_147 : decode cX11_restore 147 = .ok (.iastore, 1) := by decide +kernel
theorem dX11_restore_148 : decode cX11_restore 148 = .ok (.iconst 0, 1) := by decide +kernel
theorem dX11_restore_149 : decode cX11_restore 149 = .ok (.istore 4, 2) := by decide +kernel
theorem dX11_restore_151 : decode cX11_restore 151 = .ok (.iload 4, 2) := by decide +kernel
theorem dX11_restore_153 : decode cX11_restore 153 = .ok (.iload_n 3, 1) := by decide +kernel
theorem dX11_restore_154 : decode cX11_restore 154 = .ok (.if_icmp .ge 41, 3) := by decide +kernel
theorem dX11_restore_157 : decode cX11_restore 157 = .ok (.aload_n 0, 1) := by decide +kernel
theorem dX11_restore_158 : decode cX11_restore 158 = .ok (.getfield 44, 3) := by decide +kernel
theorem dX11_restore_161 : decode cX11_restore 161 = .ok (.bipush 40, 2) := by decide +kernel
theorem dX11_restore_163 : decode cX11_restore 163 = .ok (.iload_n 2, 1) := by decide +kernel
theorem dX11_restore_164 : decode cX11_restore 164 = .ok (.imul, 1) := by decide +kernel
theorem dX11_restore_165 : decode cX11_restore 165 = .ok (.iload 4, 2) := by decide +kernel
theorem dX11_restore_167 : decode cX11_restore 167 = .ok (.iadd, 1) := by decide +kernel
theorem dX11_restore_168 : decode cX11_restore 168 = .ok (.aload_n 0, 1) := by decide +kernel
theorem dX11_restore_169 : decode cX11_restore 169 = .ok (.invokevirtual 253, 3) := by decide +kernel
theorem dX11_restore_172 : decode cX11_restore 172 = .ok (.iastore, 1) := by decide +kernel
theorem dX11_restore_173 : decode cX11_restore 173 = .ok (.aload_n 0, 1) := by decide +kernel
theorem dX11_restore_174 : decode cX11_restore 174 = .ok (.getfield 47, 3) := by decide +kernel
theorem dX11_restore_177 : decode cX11_restore 177 = .ok (.bipush 40, 2) := by decide +kernel
theorem dX11_restore_179 : decode cX11_restore 179 = .ok (.iload_n 2, 1) := by decide +kernel
theorem dX11_restore_180 : decode cX11_restore 180 = .ok (.imul, 1) := by decide +kernel
theorem dX11_restore_181 : decode cX11_restore 181 = .ok (.iload 4, 2) := by decide +kernel
theorem dX11_restore_183 : decode cX11_restore 183 = .ok (.iadd, 1) := by decide +kernel
theorem dX11_restore_184 : decode cX11_restore 184 = .ok (.aload_n 0, 1) := by decide +kernel
theorem dX11_restore_185 : decode cX11_restore 185 = .ok (.invokevirtual 253, 3) := by decide +kernel
theorem dX11_restore_188 : decode cX11_restore 188 = .ok (.iastore, 1) := by decide +kernel
theorem dX11_restore_189 : decode cX11_restore 189 = .ok (.iinc 4 1, 3) := by decide +kernel
theorem dX11_restore_192 : decode cX11_restore 192 = .ok (.goto (-41), 3) := by decide +kernel
theorem dX11_restore_195 : decode cX11_restore 195 = .ok (.iinc 2 1, 3) := by decide +kernel
theorem dX11_restore_198 : decode cX11_restore 198 = .ok (.goto (-178), 3) := by decide +kernel
theorem dX11_restore_201 : decode cX11_restore 201 = .ok (.return_, 1) := by decide +kernel
theorem dX11_settle_0 : decode cX11_settle 0 = .ok (.aload_n 0, 1) := by decide +kernel
theorem dX11_settle_1 : decode cX11_settle 1 = .ok (.aload_n 0, 1) := by decide +kernel
theorem dX11_settle_2 : decode cX11_settle 2 = .ok (.getfield 257, 3) := by decide +kernel
theorem dX11_settle_5 : decode cX11_settle 5 = .ok (.putfield 260, 3) := by decide +kernel
theorem dX11_settle_8 : decode cX11_settle 8 = .ok (.aload_n 0, 1) := by decide +kernel
theorem dX11_settle_9 : decode cX11_settle 9 = .ok (.iconst 0, 1) := by decide +kernel
theorem dX11_settle_10 : decode cX11_settle 10 = .ok (.putfield 263, 3) := by decide +kernel
theorem dX11_settle_13 : decode cX11_settle 13 = .ok (.aload_n 0, 1) := by decide +kernel
theorem dX11_settle_14 : decode cX11_settle 14 = .ok (.getfield 71, 3) := by decide +kernel
theorem dX11_settle_17 : decode cX11_settle 17 = .ok (.iconst 0, 1) := by decide +kernel
theorem dX11_settle_18 : decode cX11_settle 18 = .ok (.iconst 0, 1) := by decide +kernel
theorem dX11_settle_19 : decode cX11_settle 19 = .ok (.iastore, 1) := by decide +kernel
theorem dX11_settle_20 : decode cX11_settle 20 = .ok (.return_, 1) := by decide +kernel
theorem dX11_begins_0 : decode cX11_begins 0 = .ok (.aload_n 0, 1) := by decide +kernel
theorem dX11_begins_1 : decode cX11_begins 1 = .ok (.aload_n 0, 1) := by decide +kernel
theorem dX11_begins_2 : decode cX11_begins 2 = .ok (.getfield 257, 3) := by decide +kernel
theorem dX11_begins_5 : decode cX11_begins 5 = .ok (.aload_n 0, 1) := by decide +kernel
theorem dX11_begins_6 : decode cX11_begins 6 = .ok (.getfield 260, 3) := by decide +kernel
theorem dX11_begins_9 : decode cX11_begins 9 = .ok (.isub, 1) := by decide +kernel
theorem dX11_begins_10 : decode cX11_begins 10 = .ok (.invokevirtual 266, 3) := by decide +kernel
theorem dX11_begins_13 : decode cX11_begins 13 = .ok (.return_, 1) := by decide +kernel
theorem dX11_ends_0 : decode cX11_ends 0 = .ok (.aload_n 0, 1) := by decide +kernel
theorem dX11_ends_1 : decode cX11_ends 1 = .ok (.dup, 1) := by decide +kernel
theorem dX11_ends_2 : decode cX11_ends 2 = .ok (.getfield 257, 3) := by decide +kernel
theorem dX11_ends_5 : decode cX11_ends 5 = .ok (.iconst 1, 1) := by decide +kernel
theorem dX11_ends_6 : decode cX11_ends 6 = .ok (.iadd, 1) := by decide +kernel
theorem dX11_ends_7 : decode cX11_ends 7 = .ok (.putfield 257, 3) := by decide +kernel
theorem dX11_ends_10 : decode cX11_ends 10 = .ok (.aload_n 0, 1) := by decide +kernel
theorem dX11_ends_11 : decode cX11_ends 11 = .ok (.iconst 0, 1) := by decide +kernel
theorem dX11_ends_12 : decode cX11_ends 12 = .ok (.putfield 263, 3) := by decide +kernel
theorem dX11_ends_15 : decode cX11_ends 15 = .ok (.aload_n 0, 1) := by decide +kernel
theorem dX11_ends_16 : decode cX11_ends 16 = .ok (.getfield 50, 3) := by decide +kernel
theorem dX11_ends_19 : decode cX11_ends 19 = .ok (.aload_n 0, 1) := by decide +kernel
theorem dX11_ends_20 : decode cX11_ends 20 = .ok (.getfield 257, 3) := by decide +kernel
theorem dX11_ends_23 : decode cX11_ends 23 = .ok (.iload_n 1, 1) := by decide +kernel
theorem dX11_ends_24 : decode cX11_ends 24 = .ok (.iastore, 1) := by decide +kernel
theorem dX11_ends_25 : decode cX11_ends 25 = .ok (.aload_n 0, 1) := by decide +kernel
theorem dX11_ends_26 : decode cX11_ends 26 = .ok (.getfield 53, 3) := by decide +kernel
theorem dX11_ends_29 : decode cX11_ends 29 = .ok (.aload_n 0, 1) := by decide +kernel
theorem dX11_ends_30 : decode cX11_ends 30 = .ok (.getfield 257, 3) := by decide +kernel
theorem dX11_ends_33 : decode cX11_ends 33 = .ok (.iload_n 2, 1) := by decide +kernel
theorem dX11_ends_34 : decode cX11_ends 34 = .ok (.iastore, 1) := by decide +kernel
theorem dX11_ends_35 : decode cX11_ends 35 = .ok (.aload_n 0, 1) := by decide +kernel
theorem dX11_ends_36 : decode cX11_ends 36 = .ok (.getfield 56, 3) := by decide +kernel
theorem dX11_ends_39 : decode cX11_ends 39 = .ok (.aload_n 0, 1) := by decide +kernel
theorem dX11_ends_40 : decode cX11_ends 40 = .ok (.getfield 257, 3) := by decide +kernel
theorem dX11_ends_43 : decode cX11_ends 43 = .ok (.iload_n 3, 1) := by decide +kernel
theorem dX11_ends_44 : decode cX11_ends 44 = .ok (.iastore, 1) := by decide +kernel
theorem dX11_ends_45 : decode cX11_ends 45 = .ok (.aload_n 0, 1) := by decide +kernel
theorem dX11_ends_46 : decode cX11_ends 46 = .ok (.aload_n 0, 1) := by decide +kernel
theorem dX11_ends_47 : decode cX11_ends 47 = .ok (.getfield 257, 3) := by decide +kernel
theorem dX11_ends_50 : decode cX11_ends 50 = .ok (.aload_n 0, 1) := by decide +kernel
theorem dX11_ends_51 : decode cX11_ends 51 = .ok (.getfield 260, 3) := by decide +kernel
theorem dX11_ends_54 : decode cX11_ends 54 = .ok (.isub, 1) := by decide +kernel
theorem dX11_ends_55 : decode cX11_ends 55 = .ok (.invokevirtual 266, 3) := by decide +kernel
theorem dX11_ends_58 : decode cX11_ends 58 = .ok (.aload_n 0, 1) := by decide +kernel
theorem dX11_ends_59 : decode cX11_ends 59 = .ok (.iconst 0, 1) := by decide +kernel
theorem dX11_ends_60 : decode cX11_ends 60 = .ok (.putfield 119, 3) := by decide +kernel
theorem dX11_ends_63 : decode cX11_ends 63 = .ok (.aload_n 0, 1) := by decide +kernel
theorem dX11_ends_64 : decode cX11_ends 64 = .ok (.getfield 257, 3) := by decide +kernel
theorem dX11_ends_67 : decode cX11_ends 67 = .ok (.ireturn, 1) := by decide +kernel
theorem dX11_feature_0 : decode cX11_feature 0 = .ok (.iload_n 1, 1) := by decide +kernel
theorem dX11_feature_1 : decode cX11_feature 1 = .ok (.ifCond .lt 41, 3) := by decide +kernel
theorem dX11_feature_4 : decode cX11_feature 4 = .ok (.iload_n 1, 1) := by decide +kernel
theorem dX11_feature_5 : decode cX11_feature 5 = .ok (.bipush 6, 2) := by decide +kernel
theorem dX11_feature_7 : decode cX11_feature 7 = .ok (.if_icmp .gt 35, 3) := by decide +kernel
theorem dX11_feature_10 : decode cX11_feature 10 = .ok (.iload_n 2, 1) := by decide +kernel
theorem dX11_feature_11 : decode cX11_feature 11 = .ok (.ifCond .lt 31, 3) := by decide +kernel
theorem dX11_feature_14 : decode cX11_feature 14 = .ok (.iload_n 2, 1) := by decide +kernel
theorem dX11_feature_15 : decode cX11_feature 15 = .ok (.bipush 9, 2) := by decide +kernel
theorem dX11_feature_17 : decode cX11_feature 17 = .ok (.if_icmp .gt 25, 3) := by decide +kernel
theorem dX11_feature_20 : decode cX11_feature 20 = .ok (.iload_n 3, 1) := by decide +kernel
theorem dX11_feature_21 : decode cX11_feature 21 = .ok (.ifCond .lt 21, 3) := by decide +kernel
theorem dX11_feature_24 : decode cX11_feature 24 = .ok (.iload_n 3, 1) := by decide +kernel
theorem dX11_feature_25 : decode cX11_feature 25 = .ok (.bipush 100, 2) := by decide +kernel
theorem dX11_feature_27 : decode cX11_feature 27 = .ok (.if_icmp .gt 15, 3) := by decide +kernel
theorem dX11_feature_30 : decode cX11_feature 30 = .ok (.iload 4, 2) := by decide +kernel
theorem dX11_feature_32 : decode cX11_feature 32 = .ok (.ifCond .lt 10, 3) := by decide +kernel
theorem dX11_feature_35 : decode cX11_feature 35 = .ok (.iload 4, 2) := by decide +kernel
theorem dX11_feature_37 : decode cX11_feature 37 = .ok (.bipush 9, 2) := by decide +kernel
theorem dX11_feature_39 : decode cX11_feature 39 = .ok (.if_icmp .le 9, 3) := by decide +kernel
theorem dX11_feature_42 : decode cX11_feature 42 = .ok (.aload_n 0, 1) := by decide +kernel
theorem dX11_feature_43 : decode cX11_feature 43 = .ok (.iconst 4, 1) := by decide +kernel
theorem dX11_feature_44 : decode cX11_feature 44 = .ok (.invokevirtual 126, 3) := by decide +kernel
theorem dX11_feature_47 : decode cX11_feature 47 = .ok (.ireturn, 1) := by decide +kernel
theorem dX11_feature_48 : decode cX11_feature 48 = .ok (.aload_n 0, 1) := by decide +kernel
theorem dX11_feature_49 : decode cX11_feature 49 = .ok (.getfield 130, 3) := by decide +kernel
theorem dX11_feature_52 : decode cX11_feature 52 = .ok (.sipush 200, 3) := by decide +kernel
theorem dX11_feature_55 : decode cX11_feature 55 = .ok (.if_icmp .ne 10, 3) := by decide +kernel
theorem dX11_feature_58 : decode cX11_feature 58 = .ok (.aload_n 0, 1) := by decide +kernel
theorem dX11_feature_59 : decode cX11_feature 59 = .ok (.bipush 8, 2) := by decide +kernel
theorem dX11_feature_61 : decode cX11_feature 61 = .ok (.invokevirtual 126, 3) := by decide +kernel
theorem dX11_feature_64 : decode cX11_feature 64 = .ok (.ireturn, 1) := by decide +kernel
theorem dX11_feature_65 : decode cX11_feature 65 = .ok (.aload_n 0, 1) := by decide +kernel
theorem dX11_feature_66 : decode cX11_feature 66 = .ok (.getfield 130, 3) := by decide +kernel
theorem dX11_feature_69 : decode cX11_feature 69 = .ok (.istore 5, 2) := by decide +kernel
theorem dX11_feature_71 : decode cX11_feature 71 = .ok (.aload_n 0, 1) := by decide +kernel
theorem dX11_feature_72 : decode cX11_feature 72 = .ok (.iload 5, 2) := by decide +kernel
theorem dX11_feature_74 : decode cX11_feature 74 = .ok (.iload_n 1, 1) := by decide +kernel
theorem dX11_feature_75 : decode cX11_feature 75 = .ok (.iload_n 2, 1) := by decide +kernel
theorem dX11_feature_76 : decode cX11_feature 76 = .ok (.iload_n 3, 1) := by decide +kernel
theorem dX11_feature_77 : decode cX11_feature 77 = .ok (.iload 4, 2) := by decide +kernel
theorem dX11_feature_79 : decode cX11_feature 79 = .ok (.invokevirtual 269, 3) := by decide +kernel
theorem dX11_feature_82 : decode cX11_feature 82 = .ok (.aload_n 0, 1) := by decide +kernel
theorem dX11_feature_83 : decode cX11_feature 83 = .ok (.invokevirtual 273, 3) := by decide +kernel
theorem dX11_feature_86 : decode cX11_feature 86 = .ok (.aload_n 0, 1) := by decide +kernel
theorem dX11_feature_87 : decode cX11_feature 87 = .ok (.iconst 0, 1) := by decide +kernel
theorem dX11_feature_88 : decode cX11_feature 88 = .ok (.putfield 119, 3) := by decide +kernel
theorem dX11_feature_91 : decode cX11_feature 91 = .ok (.iload 5, 2) := by decide +kernel
theorem dX11_feature_93 : decode cX11_feature 93 = .ok (.ireturn, 1) := by decide +kernel
theorem dX11_begin_0 : decode cX11_begin 0 = .ok (.aload_n 0, 1) := by decide +kernel
theorem dX11_begin_1 : decode cX11_begin 1 = .ok (.iload_n 1, 1) := by decide +kernel
theorem dX11_begin_2 : decode cX11_begin 2 = .ok (.iconst 1, 1) := by decide +kernel
theorem dX11_begin_3 : decode cX11_begin 3 = .ok (.iadd, 1) := by decide +kernel
theorem dX11_begin_4 : decode cX11_begin 4 = .ok (.putfield 130, 3) := by decide +kernel
theorem dX11_begin_7 : decode cX11_begin 7 = .ok (.aload_n 0, 1) := by decide +kernel
theorem dX11_begin_8 : decode cX11_begin 8 = .ok (.getfield 7, 3) := by decide +kernel
theorem dX11_begin_11 : decode cX11_begin 11 = .ok (.iload_n 1, 1) := by decide +kernel
theorem dX11_begin_12 : decode cX11_begin 12 = .ok (.iload_n 2, 1) := by decide +kernel
theorem dX11_begin_13 : decode cX11_begin 13 = .ok (.iastore, 1) := by decide +kernel
theorem dX11_begin_14 : decode cX11_begin 14 = .ok (.aload_n 0, 1) := by decide +kernel
theorem dX11_begin_15 : decode cX11_begin 15 = .ok (.getfield 13, 3) := by decide +kernel
theorem dX11_begin_18 : decode cX11_begin 18 = .ok (.iload_n 1, 1) := by decide +kernel
theorem dX11_begin_19 : decode cX11_begin 19 = .ok (.iload_n 3, 1) := by decide +kernel
theorem dX11_begin_20 : decode cX11_begin 20 = .ok (.iastore, 1) := by decide +kernel
theorem dX11_begin_21 : decode cX11_begin 21 = .ok (.aload_n 0, 1) := by decide +kernel
theorem dX11_begin_22 : decode cX11_begin 22 = .ok (.getfield 16, 3) := by decide +kernel
theorem dX11_begin_25 : decode cX11_begin 25 = .ok (.iload_n 1, 1) := by decide +kernel
theorem dX11_begin_26 : decode cX11_begin 26 = .ok (.iload 4, 2) := by decide +kernel
theorem dX11_begin_28 : decode cX11_begin 28 = .ok (.iastore, 1) := by decide +kernel
theorem dX11_begin_29 : decode cX11_begin 29 = .ok (.aload_n 0, 1) := by decide +kernel
theorem dX11_begin_30 : decode cX11_begin 30 = .ok (.getfield 19, 3) := by decide +kernel
theorem dX11_begin_33 : decode cX11_begin 33 = .ok (.iload_n 1, 1) := by decide +kernel
theorem dX11_begin_34 : decode cX11_begin 34 = .ok (.iload 5, 2) := by decide +kernel
theorem dX11_begin_36 : decode cX11_begin 36 = .ok (.iastore, 1) := by decide +kernel
theorem dX11_begin_37 : decode cX11_begin 37 = .ok (.aload_n 0, 1) := by decide +kernel
theorem dX11_begin_38 : decode cX11_begin 38 = .ok (.getfield 22, 3) := by decide +kernel
theorem dX11_begin_41 : decode cX11_begin 41 = .ok (.iload_n 1, 1) := by decide +kernel
theorem dX11_begin_42 : decode cX11_begin 42 = .ok (.iconst 0, 1) := by decide +kernel
theorem dX11_begin_43 : decode cX11_begin 43 = .ok (.iastore, 1) := by decide +kernel
theorem dX11_begin_44 : decode cX11_begin 44 = .ok (.aload_n 0, 1) := by decide +kernel
theorem dX11_begin_45 : decode cX11_begin 45 = .ok (.getfield 25, 3) := by decide +kernel
theorem dX11_begin_48 : decode cX11_begin 48 = .ok (.iload_n 1, 1) := by decide +kernel
theorem dX11_begin_49 : decode cX11_begin 49 = .ok (.iconst 0, 1) := by decide +kernel
theorem dX11_begin_50 : decode cX11_begin 50 = .ok (.bastore, 1) := by decide +kernel
theorem dX11_begin_51 : decode cX11_begin 51 = .ok (.aload_n 0, 1) := by decide +kernel
theorem dX11_begin_52 : decode cX11_begin 52 = .ok (.getfield 29, 3) := by decide +kernel
theorem dX11_begin_55 : decode cX11_begin 55 = .ok (.iload_n 1, 1) := by decide +kernel
theorem dX11_begin_56 : decode cX11_begin 56 = .ok (.iconst 0, 1) := by decide +kernel
theorem dX11_begin_57 : decode cX11_begin 57 = .ok (.iastore, 1) := by decide +kernel
theorem dX11_begin_58 : decode cX11_begin 58 = .ok (.aload_n 0, 1) := by decide +kernel
theorem dX11_begin_59 : decode cX11_begin 59 = .ok (.getfield 32, 3) := by decide +kernel
theorem dX11_begin_62 : decode cX11_begin 62 = .ok (.iload_n 1, 1) := by decide +kernel
theorem dX11_begin_63 : decode cX11_begin 63 = .ok (.iconst (-1), 1) := by decide +kernel
theorem dX11_begin_64 : decode cX11_begin 64 = .ok (.iastore, 1) := by decide +kernel
theorem dX11_begin_65 : decode cX11_begin 65 = .ok (.aload_n 0, 1) := by decide +kernel
theorem dX11_begin_66 : decode cX11_begin 66 = .ok (.getfield 35, 3) := by decide +kernel
theorem dX11_begin_69 : decode cX11_begin 69 = .ok (.iload_n 1, 1) := by decide +kernel
theorem dX11_begin_70 : decode cX11_begin 70 = .ok (.iconst (-1), 1) := by decide +kernel
theorem dX11_begin_71 : decode cX11_begin 71 = .ok (.iastore, 1) := by decide +kernel
theorem dX11_begin_72 : decode cX11_begin 72 = .ok (.aload_n 0, 1) := by decide +kernel
theorem dX11_begin_73 : decode cX11_begin 73 = .ok (.getfield 38, 3) := by decide +kernel
theorem dX11_begin_76 : decode cX11_begin 76 = .ok (.iload_n 1, 1) := by decide +kernel
theorem dX11_begin_77 : decode cX11_begin 77 = .ok (.iconst (-1), 1) := by decide +kernel
theorem dX11_begin_78 : decode cX11_begin 78 = .ok (.iastore, 1) := by decide +kernel
theorem dX11_begin_79 : decode cX11_begin 79 = .ok (.aload_n 0, 1) := by decide +kernel
theorem dX11_begin_80 : decode cX11_begin 80 = .ok (.getfield 41, 3) := by decide +kernel
theorem dX11_begin_83 : decode cX11_begin 83 = .ok (.iload_n 1, 1) := by decide +kernel
theorem dX11_begin_84 : decode cX11_begin 84 = .ok (.iconst 0, 1) := by decide +kernel
theorem dX11_begin_85 : decode cX11_begin 85 = .ok (.iastore, 1) := by decide +kernel
theorem dX11_begin_86 : decode cX11_begin 86 = .ok (.return_, 1) := by decide +kernel
theorem dX11_corner_0 : decode cX11_corner 0 = .ok (.aload_n 0, 1) := by decide +kernel
theorem dX11_corner_1 : decode cX11_corner 1 = .ok (.iload_n 1, 1) := by decide +kernel
theorem dX11_corner_2 : decode cX11_corner 2 = .ok (.invokevirtual 133, 3) := by decide +kernel
theorem dX11_corner_5 : decode cX11_corner 5 = .ok (.ifCond .ne 9, 3) := by decide +kernel
theorem dX11_corner_8 : decode cX11_corner 8 = .ok (.aload_n 0, 1) := by decide +kernel
theorem dX11_corner_9 : decode cX11_corner 9 = .ok (.iconst 1, 1) := by decide +kernel
theorem dX11_corner_10 : decode cX11_corner 10 = .ok (.invokevirtual 126, 3) := by decide +kernel
theorem dX11_corner_13 : decode cX11_corner 13 = .ok (.ireturn, 1) := by decide +kernel
theorem dX11_corner_14 : decode cX11_corner 14 = .ok (.aload_n 0, 1) := by decide +kernel
theorem dX11_corner_15 : decode cX11_corner 15 = .ok (.getfield 22, 3) := by decide +kernel
theorem dX11_corner_18 : decode cX11_corner 18 = .ok (.iload_n 1, 1) := by decide +kernel
theorem dX11_corner_19 : decode cX11_corner 19 = .ok (.iaload, 1) := by decide +kernel
theorem dX11_corner_20 : decode cX11_corner 20 = .ok (.ifCond .eq 9, 3) := by decide +kernel
theorem dX11_corner_23 : decode cX11_corner 23 = .ok (.aload_n 0, 1) := by decide +kernel
theorem dX11_corner_24 : decode cX11_corner 24 = .ok (.iconst 2, 1) := by decide +kernel
theorem dX11_corner_25 : decode cX11_corner 25 = .ok (.invokevirtual 126, 3) := by decide +kernel
theorem dX11_corner_28 : decode cX11_corner 28 = .ok (.ireturn, 1) := by decide +kernel
theorem dX11_corner_29 : decode cX11_corner 29 = .ok (.iload_n 2, 1) := by decide +kernel
theorem dX11_corner_30 : decode cX11_corner 30 = .ok (.ifCond .lt 21, 3) := by decide +kernel
theorem dX11_corner_33 : decode cX11_corner 33 = .ok (.iload_n 2, 1) := by decide +kernel
theorem dX11_corner_34 : decode cX11_corner 34 = .ok (.sipush 1000, 3) := by decide +kernel
theorem dX11_corner_37 : decode cX11_corner 37 = .ok (.if_icmp .gt 14, 3) := by decide +kernel
theorem dX11_corner_40 : decode cX11_corner 40 = .ok (.iload_n 3, 1) := by decide +kernel
theorem dX11_corner_41 : decode cX11_corner 41 = .ok (.ifCond .lt 10, 3) := by decide +kernel
theorem dX11_corner_44 : decode cX11_corner 44 = .ok (.iload_n 3, 1) := by decide +kernel
theorem dX11_corner_45 : decode cX11_corner 45 = .ok (.sipush 1000, 3) := by decide +kernel
theorem dX11_corner_48 : decode cX11_corner 48 = .ok (.if_icmp .le 9, 3) := by decide +kernel
theorem dX11_corner_51 : decode cX11_corner 51 = .ok (.aload_n 0, 1) := by decide +kernel
theorem dX11_corner_52 : decode cX11_corner 52 = .ok (.iconst 4, 1) := by decide +kernel
theorem dX11_corner_53 : decode cX11_corner 53 = .ok (.invokevirtual 126, 3) := by decide +kernel
theorem dX11_corner_56 : decode cX11_corner 56 = .ok (.ireturn, 1) := by decide +kernel
theorem dX11_corner_57 : decode cX11_corner 57 = .ok (.aload_n 0, 1) := by decide +kernel
theorem dX11_corner_58 : decode cX11_corner 58 = .ok (.getfield 25, 3) := by decide +kernel
theorem dX11_corner_61 : decode cX11_corner 61 = .ok (.iload_n 1, 1) := by decide +kernel
theorem dX11_corner_62 : decode cX11_corner 62 = .ok (.baload, 1) := by decide +kernel
theorem dX11_corner_63 : decode cX11_corner 63 = .ok (.ifCond .eq 9, 3) := by decide +kernel
theorem dX11_corner_66 : decode cX11_corner 66 = .ok (.aload_n 0, 1) := by decide +kernel
theorem dX11_corner_67 : decode cX11_corner 67 = .ok (.iconst 5, 1) := by decide +kernel
theorem dX11_corner_68 : decode cX11_corner 68 = .ok (.invokevirtual 126, 3) := by decide +kernel
theorem dX11_corner_71 : decode cX11_corner 71 = .ok (.ireturn, 1) := by decide +kernel
theorem dX11_corner_72 : decode cX11_corner 72 = .ok (.aload_n 0, 1) := by decide +kernel
theorem dX11_corner_73 : decode cX11_corner 73 = .ok (.getfield 41, 3) := by decide +kernel
theorem dX11_corner_76 : decode cX11_corner 76 = .ok (.iload_n 1, 1) := by decide +kernel
theorem dX11_corner_77 : decode cX11_corner 77 = .ok (.iaload, 1) := by decide +kernel
theorem dX11_corner_78 : decode cX11_corner 78 = .ok (.aload_n 0, 1) := by decide +kernel
theorem dX11_corner_79 : decode cX11_corner 79 = .ok (.getfield 7, 3) := by decide +kernel
theorem dX11_corner_82 : decode cX11_corner 82 = .ok (.iload_n 1, 1) := by decide +kernel
theorem dX11_corner_83 : decode cX11_corner 83 = .ok (.iaload, 1) := by decide +kernel
theorem dX11_corner_84 : decode cX11_corner 84 = .ok (.ifCond .ne 7, 3) := by decide +kernel
theorem dX11_corner_87 : decode cX11_corner 87 = .ok (.iconst 1, 1) := by decide +kernel
theorem dX11_corner_88 : decode cX11_corner 88 = .ok (.goto 5, 3) := by decide +kernel
theorem dX11_corner_91 : decode cX11_corner 91 = .ok (.bipush 40, 2) := by decide +kernel
theorem dX11_corner_93 : decode cX11_corner 93 = .ok (.if_icmp .ne 10, 3) := by decide +kernel
theorem dX11_corner_96 : decode cX11_corner 96 = .ok (.aload_n 0, 1) := by decide +kernel
theorem dX11_corner_97 : decode cX11_corner 97 = .ok (.bipush 6, 2) := by decide +kernel
theorem dX11_corner_99 : decode cX11_corner 99 = .ok (.invokevirtual 126, 3) := by decide +kernel
theorem dX11_corner_102 : decode cX11_corner 102 = .ok (.ireturn, 1) := by decide +kernel
theorem dX11_corner_103 : decode cX11_corner 103 = .ok (.aload_n 0, 1) := by decide +kernel
theorem dX11_corner_104 : decode cX11_corner 104 = .ok (.getfield 44, 3) := by decide +kernel
theorem dX11_corner_107 : decode cX11_corner 107 = .ok (.bipush 40, 2) := by decide +kernel
theorem dX11_corner_109 : decode cX11_corner 109 = .ok (.iload_n 1, 1) := by decide +kernel
theorem dX11_corner_110 : decode cX11_corner 110 = .ok (.imul, 1) := by decide +kernel
theorem dX11_corner_111 : decode cX11_corner 111 = .ok (.aload_n 0, 1) := by decide +kernel
theorem dX11_corner_112 : decode cX11_corner 112 = .ok (.getfield 41, 3) := by decide +kernel
theorem dX11_corner_115 : decode cX11_corner 115 = .ok (.iload_n 1, 1) := by decide +kernel
theorem dX11_corner_116 : decode cX11_corner 116 = .ok (.iaload, 1) := by decide +kernel
theorem dX11_corner_117 : decode cX11_corner 117 = .ok (.iadd, 1) := by decide +kernel
theorem dX11_corner_118 : decode cX11_corner 118 = .ok (.iload_n 2, 1) := by decide +kernel
theorem dX11_corner_119 : decode cX11_corner 119 = .ok (.iastore, 1) := by decide +kernel
theorem dX11_corner_120 : decode cX11_corner 120 = .ok (.aload_n 0, 1) := by decide +kernel
theorem dX11_corner_121 : decode cX11_corner 121 = .ok (.getfield 47, 3) := by decide +kernel
theorem dX11_corner_124 : decode cX11_corner 124 = .ok (.bipush 40, 2) := by decide +kernel
theorem dX11_corner_126 : decode cX11_corner 126 = .ok (.iload_n 1, 1) := by decide +kernel
theorem dX11_corner_127 : decode cX11_corner 127 = .ok (.imul, 1) := by decide +kernel
theorem dX11_corner_128 : decode cX11_corner 128 = .ok (.aload_n 0, 1) := by decide +kernel
theorem dX11_corner_129 : decode cX11_corner 129 = .ok (.getfield 41, 3) := by decide +kernel
theorem dX11_corner_132 : decode cX11_corner 132 = .ok (.iload_n 1, 1) := by decide +kernel
theorem dX11_corner_133 : decode cX11_corner 133 = .ok (.iaload, 1) := by decide +kernel
theorem dX11_corner_134 : decode cX11_corner 134 = .ok (.iadd, 1) := by decide +kernel
theorem dX11_corner_135 : decode cX11_corner 135 = .ok (.iload_n 3, 1) := by decide +kernel
theorem dX11_corner_136 : decode cX11_corner 136 = .ok (.iastore, 1) := by decide +kernel
theorem dX11_corner_137 : decode cX11_corner 137 = .ok (.aload_n 0, 1) := by decide +kernel
theorem dX11_corner_138 : decode cX11_corner 138 = .ok (.getfield 41, 3) := by decide +kernel
theorem dX11_corner_141 : decode cX11_corner 141 = .ok (.iload_n 1, 1) := by decide +kernel
theorem dX11_corner_142 : decode cX11_corner 142 = .ok (.dup2, 1) := by decide +kernel
theorem dX11_corner_143 : decode cX11_corner 143 = .ok (.iaload, 1) := by decide +kernel
theorem dX11_corner_144 : decode cX11_corner 144 = .ok (.iconst 1, 1) := by decide +kernel
theorem dX11_corner_145 : decode cX11_corner 145 = .ok (.iadd, 1) := by decide +kernel
theorem dX11_corner_146 : decode cX11_corner 146 = .ok (.iastore, 1) := by decide +kernel
theorem dX11_corner_147 : decode cX11_corner 147 = .ok (.aload_n 0, 1) := by decide +kernel
theorem dX11_corner_148 : decode cX11_corner 148 = .ok (.iconst 0, 1) := by decide +kernel
theorem dX11_corner_149 : decode cX11_corner 149 = .ok (.putfield 119, 3) := by decide +kernel
theorem dX11_corner_152 : decode cX11_corner 152 = .ok (.aload_n 0, 1) := by decide +kernel
theorem dX11_corner_153 : decode cX11_corner 153 = .ok (.getfield 41, 3) := by decide +kernel
theorem dX11_corner_156 : decode cX11_corner 156 = .ok (.iload_n 1, 1) := by decide +kernel
theorem dX11_corner_157 : decode cX11_corner 157 = .ok (.iaload, 1) := by decide +kernel
theorem dX11_corner_158 : decode cX11_corner 158 = .ok (.ireturn, 1) := by decide +kernel
theorem dX11_tear_0 : decode cX11_tear 0 = .ok (.aload_n 0, 1) := by decide +kernel
theorem dX11_tear_1 : decode cX11_tear 1 = .ok (.iload_n 1, 1) := by decide +kernel
theorem dX11_tear_2 : decode cX11_tear 2 = .ok (.invokevirtual 133, 3) := by decide +kernel
theorem dX11_tear_5 : decode cX11_tear 5 = .ok (.ifCond .ne 9, 3) := by decide +kernel
theorem dX11_tear_8 : decode cX11_tear 8 = .ok (.aload_n 0, 1) := by decide +kernel
theorem dX11_tear_9 : decode cX11_tear 9 = .ok (.iconst 1, 1) := by decide +kernel
theorem dX11_tear_10 : decode cX11_tear 10 = .ok (.invokevirtual 276, 3) := by decide +kernel
theorem dX11_tear_13 : decode cX11_tear 13 = .ok (.ireturn, 1) := by decide +kernel
theorem dX11_tear_14 : decode cX11_tear 14 = .ok (.aload_n 0, 1) := by decide +kernel
theorem dX11_tear_15 : decode cX11_tear 15 = .ok (.getfield 22, 3) := by decide +kernel
theorem dX11_tear_18 : decode cX11_tear 18 = .ok (.iload_n 1, 1) := by decide +kernel
theorem dX11_tear_19 : decode cX11_tear 19 = .ok (.iaload, 1) := by decide +kernel
theorem dX11_tear_20 : decode cX11_tear 20 = .ok (.iconst 2, 1) := by decide +kernel
theorem dX11_tear_21 : decode cX11_tear 21 = .ok (.if_icmp .ne 9, 3) := by decide +kernel
theorem dX11_tear_24 : decode cX11_tear 24 = .ok (.aload_n 0, 1) := by decide +kernel
theorem dX11_tear_25 : decode cX11_tear 25 = .ok (.iconst 2, 1) := by decide +kernel
theorem dX11_tear_26 : decode cX11_tear 26 = .ok (.invokevirtual 276, 3) := by decide +kernel
theorem dX11_tear_29 : decode cX11_tear 29 = .ok (.ireturn, 1) := by decide +kernel
theorem dX11_tear_30 : decode cX11_tear 30 = .ok (.aload_n 0, 1) := by decide +kernel
theorem dX11_tear_31 : decode cX11_tear 31 = .ok (.getfield 25, 3) := by decide +kernel
theorem dX11_tear_34 : decode cX11_tear 34 = .ok (.iload_n 1, 1) := by decide +kernel
theorem dX11_tear_35 : decode cX11_tear 35 = .ok (.baload, 1) := by decide +kernel
theorem dX11_tear_36 : decode cX11_tear 36 = .ok (.ifCond .eq 9, 3) := by decide +kernel
theorem dX11_tear_39 : decode cX11_tear 39 = .ok (.aload_n 0, 1) := by decide +kernel
theorem dX11_tear_40 : decode cX11_tear 40 = .ok (.iconst 5, 1) := by decide +kernel
theorem dX11_tear_41 : decode cX11_tear 41 = .ok (.invokevirtual 276, 3) := by decide +kernel
theorem dX11_tear_44 : decode cX11_tear 44 = .ok (.ireturn, 1) := by decide +kernel
theorem dX11_tear_45 : decode cX11_tear 45 = .ok (.aload_n 0, 1) := by decide +kernel
theorem dX11_tear_46 : decode cX11_tear 46 = .ok (.getfield 25, 3) := by decide +kernel
theorem dX11_tear_49 : decode cX11_tear 49 = .ok (.iload_n 1, 1) := by decide +kernel
theorem dX11_tear_50 : decode cX11_tear 50 = .ok (.iconst 1, 1) := by decide +kernel
theorem dX11_tear_51 : decode cX11_tear 51 = .ok (.bastore, 1) := by decide +kernel
theorem dX11_tear_52 : decode cX11_tear 52 = .ok (.aload_n 0, 1) := by decide +kernel
theorem dX11_tear_53 : decode cX11_tear 53 = .ok (.getfield 41, 3) := by decide +kernel
theorem dX11_tear_56 : decode cX11_tear 56 = .ok (.iload_n 1, 1) := by decide +kernel
theorem dX11_tear_57 : decode cX11_tear 57 = .ok (.iconst 0, 1) := by decide +kernel
theorem dX11_tear_58 : decode cX11_tear 58 = .ok (.iastore, 1) := by decide +kernel
theorem dX11_tear_59 : decode cX11_tear 59 = .ok (.aload_n 0, 1) := by decide +kernel
theorem dX11_tear_60 : decode cX11_tear 60 = .ok (.invokevirtual 273, 3) := by decide +kernel
theorem dX11_tear_63 : decode cX11_tear 63 = .ok (.aload_n 0, 1) := by decide +kernel
theorem dX11_tear_64 : decode cX11_tear 64 = .ok (.iconst 0, 1) := by decide +kernel
theorem dX11_tear_65 : decode cX11_tear 65 = .ok (.putfield 119, 3) := by decide +kernel
theorem dX11_tear_68 : decode cX11_tear 68 = .ok (.iconst 1, 1) := by decide +kernel
theorem dX11_tear_69 : decode cX11_tear 69 = .ok (.ireturn, 1) := by decide +kernel
theorem dX11_done_0 : decode cX11_done 0 = .ok (.aload_n 0, 1) := by decide +kernel
theorem dX11_done_1 : decode cX11_done 1 = .ok (.iload_n 1, 1) := by decide +kernel
theorem dX11_done_2 : decode cX11_done 2 = .ok (.invokevirtual 133, 3) := by decide +kernel
theorem dX11_done_5 : decode cX11_done 5 = .ok (.ifCond .ne 9, 3) := by decide +kernel
theorem dX11_done_8 : decode cX11_done 8 = .ok (.aload_n 0, 1) := by decide +kernel
theorem dX11_done_9 : decode cX11_done 9 = .ok (.iconst 1, 1) := by decide +kernel
theorem dX11_done_10 : decode cX11_done 10 = .ok (.invokevirtual 276, 3) := by decide +kernel
theorem dX11_done_13 : decode cX11_done 13 = .ok (.ireturn, 1) := by decide +kernel
theorem dX11_done_14 : decode cX11_done 14 = .ok (.aload_n 0, 1) := by decide +kernel
theorem dX11_done_15 : decode cX11_done 15 = .ok (.getfield 22, 3) := by decide +kernel
theorem dX11_done_18 : decode cX11_done 18 = .ok (.iload_n 1, 1) := by decide +kernel
theorem dX11_done_19 : decode cX11_done 19 = .ok (.iaload, 1) := by decide +kernel
theorem dX11_done_20 : decode cX11_done 20 = .ok (.ifCond .eq 9, 3) := by decide +kernel
theorem dX11_done_23 : decode cX11_done 23 = .ok (.aload_n 0, 1) := by decide +kernel
theorem dX11_done_24 : decode cX11_done 24 = .ok (.iconst 2, 1) := by decide +kernel
theorem dX11_done_25 : decode cX11_done 25 = .ok (.invokevirtual 276, 3) := by decide +kernel
theorem dX11_done_28 : decode cX11_done 28 = .ok (.ireturn, 1) := by decide +kernel
theorem dX11_done_29 : decode cX11_done 29 = .ok (.aload_n 0, 1) := by decide +kernel
theorem dX11_done_30 : decode cX11_done 30 = .ok (.getfield 25, 3) := by decide +kernel
theorem dX11_done_33 : decode cX11_done 33 = .ok (.iload_n 1, 1) := by decide +kernel
theorem dX11_done_34 : decode cX11_done 34 = .ok (.baload, 1) := by decide +kernel
theorem dX11_done_35 : decode cX11_done 35 = .ok (.ifCond .eq 9, 3) := by decide +kernel
theorem dX11_done_38 : decode cX11_done 38 = .ok (.aload_n 0, 1) := by decide +kernel
theorem dX11_done_39 : decode cX11_done 39 = .ok (.iconst 5, 1) := by decide +kernel
theorem dX11_done_40 : decode cX11_done 40 = .ok (.invokevirtual 276, 3) := by decide +kernel
theorem dX11_done_43 : decode cX11_done 43 = .ok (.ireturn, 1) := by decide +kernel
theorem dX11_done_44 : decode cX11_done 44 = .ok (.aload_n 0, 1) := by decide +kernel
theorem dX11_done_45 : decode cX11_done 45 = .ok (.iload_n 1, 1) := by decide +kernel
theorem dX11_done_46 : decode cX11_done 46 = .ok (.invokevirtual 210, 3) := by decide +kernel
theorem dX11_done_49 : decode cX11_done 49 = .ok (.ifCond .ne 10, 3) := by decide +kernel
theorem dX11_done_52 : decode cX11_done 52 = .ok (.aload_n 0, 1) := by decide +kernel
theorem dX11_done_53 : decode cX11_done 53 = .ok (.bipush 6, 2) := by decide +kernel
theorem dX11_done_55 : decode cX11_done 55 = .ok (.invokevirtual 276, 3) := by decide +kernel
theorem dX11_done_58 : decode cX11_done 58 = .ok (.ireturn, 1) := by decide +kernel
theorem dX11_done_59 : decode cX11_done 59 = .ok (.aload_n 0, 1) := by decide +kernel
theorem dX11_done_60 : decode cX11_done 60 = .ok (.getfield 22, 3) := by decide +kernel
theorem dX11_done_63 : decode cX11_done 63 = .ok (.iload_n 1, 1) := by decide +kernel
theorem dX11_done_64 : decode cX11_done 64 = .ok (.iconst 1, 1) := by decide +kernel
theorem dX11_done_65 : decode cX11_done 65 = .ok (.iastore, 1) := by decide +kernel
theorem dX11_done_66 : decode cX11_done 66 = .ok (.aload_n 0, 1) := by decide +kernel
theorem dX11_done_67 : decode cX11_done 67 = .ok (.invokevirtual 273, 3) := by decide +kernel
theorem dX11_done_70 : decode cX11_done 70 = .ok (.aload_n 0, 1) := by decide +kernel
theorem dX11_done_71 : decode cX11_done 71 = .ok (.iconst 0, 1) := by decide +kernel
theorem dX11_done_72 : decode cX11_done 72 = .ok (.putfield 119, 3) := by decide +kernel
theorem dX11_done_75 : decode cX11_done 75 = .ok (.iconst 1, 1) := by decide +kernel
theorem dX11_done_76 : decode cX11_done 76 = .ok (.ireturn, 1) := by decide +kernel
theorem dX11_lose_0 : decode cX11_lose 0 = .ok (.aload_n 0, 1) := by decide +kernel
theorem dX11_lose_1 : decode cX11_lose 1 = .ok (.getfield 279, 3) := by decide +kernel
theorem dX11_lose_4 : decode cX11_lose 4 = .ok (.aload_n 0, 1) := by decide +kernel
theorem dX11_lose_5 : decode cX11_lose 5 = .ok (.getfield 62, 3) := by decide +kernel
theorem dX11_lose_8 : decode cX11_lose 8 = .ok (.arraylength, 1) := by decide +kernel
theorem dX11_lose_9 : decode cX11_lose 9 = .ok (.if_icmp .ne 125, 3) := by decide +kernel
theorem dX11_lose_12 : decode cX11_lose 12 = .ok (.iconst 2, 1) := by decide +kernel
theorem dX11_lose_13 : decode cX11_lose 13 = .ok (.aload_n 0, 1) := by decide +kernel
theorem dX11_lose_14 : decode cX11_lose 14 = .ok (.getfield 279, 3) := by decide +kernel
theorem dX11_lose_17 : decode cX11_lose 17 = .ok (.imul, 1) := by decide +kernel
theorem dX11_lose_18 : decode cX11_lose 18 = .ok (.istore 5, 2) := by decide +kernel
theorem dX11_lose_20 : decode cX11_lose 20 = .ok (.iload 5, 2) := by decide +kernel
theorem dX11_lose_22 : decode cX11_lose 22 = .ok (.newarray .int, 2) := by decide +kernel
theorem dX11_lose_24 : decode cX11_lose 24 = .ok (.astore 6, 2) := by decide +kernel
theorem dX11_lose_26 : decode cX11_lose 26 = .ok (.iload 5, 2) := by decide +kernel
theorem dX11_lose_28 : decode cX11_lose 28 = .ok (.newarray .int, 2) := by decide +kernel
theorem dX11_lose_30 : decode cX11_lose 30 = .ok (.astore 7, 2) := by decide +kernel
theorem dX11_lose_32 : decode cX11_lose 32 = .ok (.iload 5, 2) := by decide +kernel
theorem dX11_lose_34 : decode cX11_lose 34 = .ok (.newarray .int, 2) := by decide +kernel
theorem dX11_lose_36 : decode cX11_lose 36 = .ok (.astore 8, 2) := by decide +kernel
theorem dX11_lose_38 : decode cX11_lose 38 = .ok (.iload 5, 2) := by decide +kernel
theorem dX11_lose_40 : decode cX11_lose 40 = .ok (.newarray .int, 2) := by decide +kernel
theorem dX11_lose_42 : decode cX11_lose 42 = .ok (.astore 9, 2) := by decide +kernel
theorem dX11_lose_44 : decode cX11_lose 44 = .ok (.iconst 0, 1) := by decide +kernel
theorem dX11_lose_45 : decode cX11_lose 45 = .ok (.istore 10, 2) := by decide +kernel
theorem dX11_lose_47 : decode cX11_lose 47 = .ok (.iload 10, 2) := by decide +kernel
theorem dX11_lose_49 : decode cX11_lose 49 = .ok (.aload_n 0, 1) := by decide +kernel
theorem dX11_lose_50 : decode cX11_lose 50 = .ok (.getfield 279, 3) := by decide +kernel
theorem dX11_lose_53 : decode cX11_lose 53 = .ok (.if_icmp .ge 57, 3) := by decide +kernel
theorem dX11_lose_56 : decode cX11_lose 56 = .ok (.aload 6, 2) := by decide +kernel
theorem dX11_lose_58 : decode cX11_lose 58 = .ok (.iload 10, 2) := by decide +kernel
theorem dX11_lose_60 : decode cX11_lose 60 = .ok (.aload_n 0, 1) := by decide +kernel
theorem dX11_lose_61 : decode cX11_lose 61 = .ok (.getfield 59, 3) := by decide +kernel
theorem dX11_lose_64 : decode cX11_lose 64 = .ok (.iload 10, 2) := by decide +kernel
theorem dX11_lose_66 : decode cX11_lose 66 = .ok (.iaload, 1) := by decide +kernel
theorem dX11_lose_67 : decode cX11_lose 67 = .ok (.iastore, 1) := by decide +kernel
theorem dX11_lose_68 : decode cX11_lose 68 = .ok (.aload 7, 2) := by decide +kernel
theorem dX11_lose_70 : decode cX11_lose 70 = .ok (.iload 10, 2) := by decide +kernel
theorem dX11_lose_72 : decode cX11_lose 72 = .ok (.aload_n 0, 1) := by decide +kernel
theorem dX11_lose_73 : decode cX11_lose 73 = .ok (.getfield 62, 3) := by decide +kernel
theorem dX11_lose_76 : decode cX11_lose 76 = .ok (.iload 10, 2) := by decide +kernel
theorem dX11_lose_78 : decode cX11_lose 78 = .ok (.iaload, 1) := by decide +kernel
theorem dX11_lose_79 : decode cX11_lose 79 = .ok (.iastore, 1) := by decide +kernel
theorem dX11_lose_80 : decode cX11_lose 80 = .ok (.aload 8, 2) := by decide +kernel
theorem dX11_lose_82 : decode cX11_lose 82 = .ok (.iload 10, 2) := by decide +kernel
theorem dX11_lose_84 : decode cX11_lose 84 = .ok (.aload_n 0, 1) := by decide +kernel
theorem dX11_lose_85 : decode cX11_lose 85 = .ok (.getfield 65, 3) := by decide +kernel
theorem dX11_lose_88 : decode cX11_lose 88 = .ok (.iload 10, 2) := by decide +kernel
theorem dX11_lose_90 : decode cX11_lose 90 = .ok (.iaload, 1) := by decide +kernel
theorem dX11_lose_91 : decode cX11_lose 91 = .ok (.iastore, 1) := by decide +kernel
theorem dX11_lose_92 : decode cX11_lose 92 = .ok (.aload 9, 2) := by decide +kernel
theorem dX11_lose_94 : decode cX11_lose 94 = .ok (.iload 10, 2) := by decide +kernel
theorem dX11_lose_96 : decode cX11_lose 96 = .ok (.aload_n 0, 1) := by decide +kernel
theorem dX11_lose_97 : decode cX11_lose 97 = .ok (.getfield 68, 3) := by decide +kernel
theorem dX11_lose_100 : decode cX11_lose 100 = .ok (.iload 10, 2) := by decide +kernel
theorem dX11_lose_102 : decode cX11_lose 102 = .ok (.iaload, 1) := by decide +kernel
theorem dX11_lose_103 : decode cX11_lose 103 = .ok (.iastore, 1) := by decide +kernel
theorem dX11_lose_104 : decode cX11_lose 104 = .ok (.iinc 10 1, 3) := by decide +kernel
theorem dX11_lose_107 : decode cX11_lose 107 = .ok (.goto (-60), 3) := by decide +kernel
theorem dX11_lose_110 : decode cX11_lose 110 = .ok (.aload_n 0, 1) := by decide +kernel
theorem dX11_lose_111 : decode cX11_lose 111 = .ok (.aload 6, 2) := by decide +kernel
theorem dX11_lose_113 : decode cX11_lose 113 = .ok (.putfield 59, 3) := by decide +kernel
theorem dX11_lose_116 : decode cX11_lose 116 = .ok (.aload_n 0, 1) := by decide +kernel
theorem dX11_lose_117 : decode cX11_lose 117 = .ok (.aload 7, 2) := by decide +kernel
theorem dX11_lose_119 : decode cX11_lose 119 = .ok (.putfield 62, 3) := by decide +kernel
theorem dX11_lose_122 : decode cX11_lose 122 = .ok (.aload_n 0, 1) := by decide +kernel
theorem dX11_lose_123 : decode cX11_lose 123 = .ok (.aload 8, 2) := by decide +kernel
theorem dX11_lose_125 : decode cX11_lose 125 = .ok (.putfield 65, 3) := by decide +kernel
theorem dX11_lose_128 : decode cX11_lose 128 = .ok (.aload_n 0, 1) := by decide +kernel
theorem dX11_lose_129 : decode cX11_lose 129 = .ok (.aload 9, 2) := by decide +kernel
theorem dX11_lose_131 : decode cX11_lose 131 = .ok (.putfield 68, 3) := by decide +kernel
theorem dX11_lose_134 : decode cX11_lose 134 = .ok (.aload_n 0, 1) := by decide +kernel
theorem dX11_lose_135 : decode cX11_lose 135 = .ok (.getfield 59, 3) := by decide +kernel
theorem dX11_lose_138 : decode cX11_lose 138 = .ok (.aload_n 0, 1) := by decide +kernel
theorem dX11_lose_139 : decode cX11_lose 139 = .ok (.getfield 279, 3) := by decide +kernel
theorem dX11_lose_142 : decode cX11_lose 142 = .ok (.iload_n 1, 1) := by decide +kernel
theorem dX11_lose_143 : decode cX11_lose 143 = .ok (.iastore, 1) := by decide +kernel
theorem dX11_lose_144 : decode cX11_lose 144 = .ok (.aload_n 0, 1) := by decide +kernel
theorem dX11_lose_145 : decode cX11_lose 145 = .ok (.getfield 62, 3) := by decide +kernel
theorem dX11_lose_148 : decode cX11_lose 148 = .ok (.aload_n 0, 1) := by decide +kernel
theorem dX11_lose_149 : decode cX11_lose 149 = .ok (.getfield 279, 3) := by decide +kernel
theorem dX11_lose_152 : decode cX11_lose 152 = .ok (.iload_n 2, 1) := by decide +kernel
theorem dX11_lose_153 : decode cX11_lose 153 = .ok (.iastore, 1) := by decide +kernel
theorem dX11_lose_154 : decode cX11_lose 154 = .ok (.aload_n 0, 1) := by decide +kernel
theorem dX11_lose_155 : decode cX11_lose 155 = .ok (.getfield 65, 3) := by decide +kernel
theorem dX11_lose_158 : decode cX11_lose 158 = .ok (.aload_n 0, 1) := by decide +kernel
theorem dX11_lose_159 : decode cX11_lose 159 = .ok (.getfield 279, 3) := by decide +kernel
theorem dX11_lose_162 : decode cX11_lose 162 = .ok (.iload_n 3, 1) := by decide +kernel
theorem dX11_lose_163 : decode cX11_lose 163 = .ok (.iastore, 1) := by decide +kernel
theorem dX11_lose_164 : decode cX11_lose 164 = .ok (.aload_n 0, 1) := by decide +kernel
theorem dX11_lose_165 : decode cX11_lose 165 = .ok (.getfield 68, 3) := by decide +kernel
theorem dX11_lose_168 : decode cX11_lose 168 = .ok (.aload_n 0, 1) := by decide +kernel
theorem dX11_lose_169 : decode cX11_lose 169 = .ok (.getfield 279, 3) := by decide +kernel
theorem dX11_lose_172 : decode cX11_lose 172 = .ok (.iload 4, 2) := by decide +kernel
theorem dX11_lose_174 : decode cX11_lose 174 = .ok (.iastore, 1) := by decide +kernel
theorem dX11_lose_175 : decode cX11_lose 175 = .ok (.aload_n 0, 1) := by decide +kernel
theorem dX11_lose_176 : decode cX11_lose 176 = .ok (.dup, 1) := by decide +kernel
theorem dX11_lose_177 : decode cX11_lose 177 = .ok (.getfield 279, 3) := by decide +kernel
theorem dX11_lose_180 : decode cX11_lose 180 = .ok (.iconst 1, 1) := by decide +kernel
theorem dX11_lose_181 : decode cX11_lose 181 = .ok (.iadd, 1) := by decide +kernel
theorem dX11_lose_182 : decode cX11_lose 182 = .ok (.putfield 279, 3) := by decide +kernel
theorem dX11_lose_185 : decode cX11_lose 185 = .ok (.return_, 1) := by decide +kernel
theorem dX11_isHeld_0 : decode cX11_isHeld 0 = .ok (.iconst 0, 1) := by decide +kernel
theorem dX11_isHeld_1 : decode cX11_isHeld 1 = .ok (.istore 4, 2) := by decide +kernel
theorem dX11_isHeld_3 : decode cX11_isHeld 3 = .ok (.iload 4, 2) := by decide +kernel
theorem dX11_isHeld_5 : decode cX11_isHeld 5 = .ok (.aload_n 0, 1) := by decide +kernel
theorem dX11_isHeld_6 : decode cX11_isHeld 6 = .ok (.getfield 130, 3) := by decide +kernel
theorem dX11_isHeld_9 : decode cX11_isHeld 9 = .ok (.if_icmp .ge 37, 3) := by decide +kernel
theorem dX11_isHeld_12 : decode cX11_isHeld 12 = .ok (.iload 4, 2) := by decide +kernel
theorem dX11_isHeld_14 : decode cX11_isHeld 14 = .ok (.iload_n 1, 1) := by decide +kernel
theorem dX11_isHeld_15 : decode cX11_isHeld 15 = .ok (.if_icmp .eq 25, 3) := by decide +kernel
theorem dX11_isHeld_18 : decode cX11_isHeld 18 = .ok (.aload_n 0, 1) := by decide +kernel
theorem dX11_isHeld_19 : decode cX11_isHeld 19 = .ok (.iload 4, 2) := by decide +kernel
theorem dX11_isHeld_21 : decode cX11_isHeld 21 = .ok (.invokevirtual 197, 3) := by decide +kernel
theorem dX11_isHeld_24 : decode cX11_isHeld 24 = .ok (.ifCond .eq 16, 3) := by decide +kernel
theorem dX11_isHeld_27 : decode cX11_isHeld 27 = .ok (.aload_n 0, 1) := by decide +kernel
theorem dX11_isHeld_28 : decode cX11_isHeld 28 = .ok (.iload 4, 2) := by decide +kernel
theorem dX11_isHeld_30 : decode cX11_isHeld 30 = .ok (.iload_n 2, 1) := by decide +kernel
theorem dX11_isHeld_31 : decode cX11_isHeld 31 = .ok (.iload_n 3, 1) := by decide +kernel
theorem dX11_isHeld_32 : decode cX11_isHeld 32 = .ok (.invokevirtual 175, 3) := by decide +kernel
theorem dX11_isHeld_35 : decode cX11_isHeld 35 = .ok (.ifCond .eq 5, 3) := by decide +kernel
theorem dX11_isHeld_38 : decode cX11_isHeld 38 = .ok (.iconst 1, 1) := by decide +kernel
theorem dX11_isHeld_39 : decode cX11_isHeld 39 = .ok (.ireturn, 1) := by decide +kernel
theorem dX11_isHeld_40 : decode cX11_isHeld 40 = .ok (.iinc 4 1, 3) := by decide +kernel
theorem dX11_isHeld_43 : decode cX11_isHeld 43 = .ok (.goto (-40), 3) := by decide +kernel
theorem dX11_isHeld_46 : decode cX11_isHeld 46 = .ok (.iconst 0, 1) := by decide +kernel
theorem dX11_isHeld_47 : decode cX11_isHeld 47 = .ok (.ireturn, 1) := by decide +kernel
theorem dX11_triangle_0 : decode cX11_triangle 0 = .ok (.aload_n 0, 1) := by decide +kernel
theorem dX11_triangle_1 : decode cX11_triangle 1 = .ok (.getfield 41, 3) := by decide +kernel
theorem dX11_triangle_4 : decode cX11_triangle 4 = .ok (.iload_n 1, 1) := by decide +kernel
theorem dX11_triangle_5 : decode cX11_triangle 5 = .ok (.iaload, 1) := by decide +kernel
theorem dX11_triangle_6 : decode cX11_triangle 6 = .ok (.istore_n 3, 1) := by decide +kernel
theorem dX11_triangle_7 : decode cX11_triangle 7 = .ok (.bipush 40, 2) := by decide +kernel
theorem dX11_triangle_9 : decode cX11_triangle 9 = .ok (.iload_n 1, 1) := by decide +kernel
theorem dX11_triangle_10 : decode cX11_triangle 10 = .ok (.imul, 1) := by decide +kernel
theorem dX11_triangle_11 : decode cX11_triangle 11 = .ok (.iload_n 2, 1) := by decide +kernel
theorem dX11_triangle_12 : decode cX11_triangle 12 = .ok (.ifCond .ne 9, 3) := by decide +kernel
theorem dX11_triangle_15 : decode cX11_triangle 15 = .ok (.iload_n 3, 1) := by decide +kernel
theorem dX11_triangle_16 : decode cX11_triangle 16 = .ok (.iconst 1, 1) := by decide +kernel
theorem dX11_triangle_17 : decode cX11_triangle 17 = .ok (.isub, 1) := by decide +kernel
theorem dX11_triangle_18 : decode cX11_triangle 18 = .ok (.goto 6, 3) := by decide +kernel
theorem dX11_triangle_21 : decode cX11_triangle 21 = .ok (.iload_n 2, 1) := by decide +kernel
theorem dX11_triangle_22 : decode cX11_triangle 22 = .ok (.iconst 1, 1) := by decide +kernel
theorem dX11_triangle_23 : decode cX11_triangle 23 = .ok (.isub, 1) := by decide +kernel
theorem dX11_triangle_24 : decode cX11_triangle 24 = .ok (.iadd, 1) := by decide +kernel
theorem dX11_triangle_25 : decode cX11_triangle 25 = .ok (.istore 4, 2) := by decide +kernel
theorem dX11_triangle_27 : decode cX11_triangle 27 = .ok (.bipush 40, 2) := by decide +kernel
theorem dX11_triangle_29 : decode cX11_triangle 29 = .ok (.iload_n 1, 1) := by decide +kernel
theorem dX11_triangle_30 : decode cX11_triangle 30 = .ok (.imul, 1) := by decide +kernel
theorem dX11_triangle_31 : decode cX11_triangle 31 = .ok (.iload_n 2, 1) := by decide +kernel
theorem dX11_triangle_32 : decode cX11_triangle 32 = .ok (.iadd, 1) := by decide +kernel
theorem dX11_triangle_33 : decode cX11_triangle 33 = .ok (.istore 5, 2) := by decide +kernel
theorem dX11_triangle_35 : decode cX11_triangle 35 = .ok (.bipush 40, 2) := by decide +kernel
theorem dX11_triangle_37 : decode cX11_triangle 37 = .ok (.iload_n 1, 1) := by decide +kernel
theorem dX11_triangle_38 : decode cX11_triangle 38 = .ok (.imul, 1) := by decide +kernel
theorem dX11_triangle_39 : decode cX11_triangle 39 = .ok (.iload_n 2, 1) := by decide +kernel
theorem dX11_triangle_40 : decode cX11_triangle 40 = .ok (.iconst 1, 1) := by decide +kernel
theorem dX11_triangle_41 : decode cX11_triangle 41 = .ok (.iadd, 1) := by decide +kernel
theorem dX11_triangle_42 : decode cX11_triangle 42 = .ok (.iload_n 3, 1) := by decide +kernel
theorem dX11_triangle_43 : decode cX11_triangle 43 = .ok (.if_icmp .ne 7, 3) := by decide +kernel
theorem dX11_triangle_46 : decode cX11_triangle 46 = .ok (.iconst 0, 1) := by decide +kernel
theorem dX11_triangle_47 : decode cX11_triangle 47 = .ok (.goto 6, 3) := by decide +kernel
theorem dX11_triangle_50 : decode cX11_triangle 50 = .ok (.iload_n 2, 1) := by decide +kernel
theorem dX11_triangle_51 : decode cX11_triangle 51 = .ok (.iconst 1, 1) := by decide +kernel
theorem dX11_triangle_52 : decode cX11_triangle 52 = .ok (.iadd, 1) := by decide +kernel
theorem dX11_triangle_53 : decode cX11_triangle 53 = .ok (.iadd, 1) := by decide +kernel
theorem dX11_triangle_54 : decode cX11_triangle 54 = .ok (.istore 6, 2) := by decide +kernel
theorem dX11_triangle_56 : decode cX11_triangle 56 = .ok (.aload_n 0, 1) := by decide +kernel
theorem dX11_triangle_57 : decode cX11_triangle 57 = .ok (.getfield 44, 3) := by decide +kernel
theorem dX11_triangle_60 : decode cX11_triangle 60 = .ok (.iload 4, 2) := by decide +kernel
theorem dX11_triangle_62 : decode cX11_triangle 62 = .ok (.iaload, 1) := by decide +kernel
theorem dX11_triangle_63 : decode cX11_triangle 63 = .ok (.i2l, 1) := by decide +kernel
theorem dX11_triangle_64 : decode cX11_triangle 64 = .ok (.aload_n 0, 1) := by decide +kernel
theorem dX11_triangle_65 : decode cX11_triangle 65 = .ok (.getfield 47, 3) := by decide +kernel
theorem dX11_triangle_68 : decode cX11_triangle 68 = .ok (.iload 4, 2) := by decide +kernel
theorem dX11_triangle_70 : decode cX11_triangle 70 = .ok (.iaload, 1) := by decide +kernel
theorem dX11_triangle_71 : decode cX11_triangle 71 = .ok (.i2l, 1) := by decide +kernel
theorem dX11_triangle_72 : decode cX11_triangle 72 = .ok (.aload_n 0, 1) := by decide +kernel
theorem dX11_triangle_73 : decode cX11_triangle 73 = .ok (.getfield 44, 3) := by decide +kernel
theorem dX11_triangle_76 : decode cX11_triangle 76 = .ok (.iload 5, 2) := by decide +kernel
theorem dX11_triangle_78 : decode cX11_triangle 78 = .ok (.iaload, 1) := by decide +kernel
theorem dX11_triangle_79 : decode cX11_triangle 79 = .ok (.i2l, 1) := by decide +kernel
theorem dX11_triangle_80 : decode cX11_triangle 80 = .ok (.aload_n 0, 1) := by decide +kernel
theorem dX11_triangle_81 : decode cX11_triangle 81 = .ok (.getfield 47, 3) := by decide +kernel
theorem dX11_triangle_84 : decode cX11_triangle 84 = .ok (.iload 5, 2) := by decide +kernel
theorem dX11_triangle_86 : decode cX11_triangle 86 = .ok (.iaload, 1) := by decide +kernel
theorem dX11_triangle_87 : decode cX11_triangle 87 = .ok (.i2l, 1) := by decide +kernel
theorem dX11_triangle_88 : decode cX11_triangle 88 = .ok (.aload_n 0, 1) := by decide +kernel
theorem dX11_triangle_89 : decode cX11_triangle 89 = .ok (.getfield 44, 3) := by decide +kernel
theorem dX11_triangle_92 : decode cX11_triangle 92 = .ok (.iload 6, 2) := by decide +kernel
theorem dX11_triangle_94 : decode cX11_triangle 94 = .ok (.iaload, 1) := by decide +kernel
theorem dX11_triangle_95 : decode cX11_triangle 95 = .ok (.i2l, 1) := by decide +kernel
theorem dX11_triangle_96 : decode cX11_triangle 96 = .ok (.aload_n 0, 1) := by decide +kernel
theorem dX11_triangle_97 : decode cX11_triangle 97 = .ok (.getfield 47, 3) := by decide +kernel
theorem dX11_triangle_100 : decode cX11_triangle 100 = .ok (.iload 6, 2) := by decide +kernel
theorem dX11_triangle_102 : decode cX11_triangle 102 = .ok (.iaload, 1) := by decide +kernel
theorem dX11_triangle_103 : decode cX11_triangle 103 = .ok (.i2l, 1) := by decide +kernel
theorem dX11_triangle_104 : decode cX11_triangle 104 = .ok (.invokestatic 140, 3) := by decide +kernel
theorem dX11_triangle_107 : decode cX11_triangle 107 = .ok (.lstore 7, 2) := by decide +kernel
theorem dX11_triangle_109 : decode cX11_triangle 109 = .ok (.lload 7, 2) := by decide +kernel
theorem dX11_triangle_111 : decode cX11_triangle 111 = .ok (.lconst 0, 1) := by decide +kernel
theorem dX11_triangle_112 : decode cX11_triangle 112 = .ok (.lcmp, 1) := by decide +kernel
theorem dX11_triangle_113 : decode cX11_triangle 113 = .ok (.ifCond .ge 9, 3) := by decide +kernel
theorem dX11_triangle_116 : decode cX11_triangle 116 = .ok (.lload 7, 2) := by decide +kernel
theorem dX11_triangle_118 : decode cX11_triangle 118 = .ok (.lneg, 1) := by decide +kernel
theorem dX11_triangle_119 : decode cX11_triangle 119 = .ok (.goto 5, 3) := by decide +kernel
theorem dX11_triangle_122 : decode cX11_triangle 122 = .ok (.lload 7, 2) := by decide +kernel
theorem dX11_triangle_124 : decode cX11_triangle 124 = .ok (.lreturn, 1) := by decide +kernel
theorem dX11_mayGo_0 : decode cX11_mayGo 0 = .ok (.aload_n 0, 1) := by decide +kernel
theorem dX11_mayGo_1 : decode cX11_mayGo 1 = .ok (.iload_n 1, 1) := by decide +kernel
theorem dX11_mayGo_2 : decode cX11_mayGo 2 = .ok (.invokevirtual 161, 3) := by decide +kernel
theorem dX11_mayGo_5 : decode cX11_mayGo 5 = .ok (.ifCond .eq 16, 3) := by decide +kernel
theorem dX11_mayGo_8 : decode cX11_mayGo 8 = .ok (.aload_n 0, 1) := by decide +kernel
theorem dX11_mayGo_9 : decode cX11_mayGo 9 = .ok (.getfield 41, 3) := by decide +kernel
theorem dX11_mayGo_12 : decode cX11_mayGo 12 = .ok (.iload_n 1, 1) := by decide +kernel
theorem dX11_mayGo_13 : decode cX11_mayGo 13 = .ok (.iaload, 1) := by decide +kernel
theorem dX11_mayGo_14 : decode cX11_mayGo 14 = .ok (.iconst 3, 1) := by decide +kernel
theorem dX11_mayGo_15 : decode cX11_mayGo 15 = .ok (.if_icmp .ne 24, 3) := by decide +kernel
theorem dX11_mayGo_18 : decode cX11_mayGo 18 = .ok (.goto 19, 3) := by decide +kernel
theorem dX11_mayGo_21 : decode cX11_mayGo 21 = .ok (.iload_n 2, 1) := by decide +kernel
theorem dX11_mayGo_22 : decode cX11_mayGo 22 = .ok (.ifCond .eq 15, 3) := by decide +kernel
theorem dX11_mayGo_25 : decode cX11_mayGo 25 = .ok (.iload_n 2, 1) := by decide +kernel
theorem dX11_mayGo_26 : decode cX11_mayGo 26 = .ok (.aload_n 0, 1) := by decide +kernel
theorem dX11_mayGo_27 : decode cX11_mayGo 27 = .ok (.getfield 41, 3) := by decide +kernel
theorem dX11_mayGo_30 : decode cX11_mayGo 30 = .ok (.iload_n 1, 1) := by decide +kernel
theorem dX11_mayGo_31 : decode cX11_mayGo 31 = .ok (.iaload, 1) := by decide +kernel
theorem dX11_mayGo_32 : decode cX11_mayGo 32 = .ok (.iconst 1, 1) := by decide +kernel
theorem dX11_mayGo_33 : decode cX11_mayGo 33 = .ok (.isub, 1) := by decide +kernel
theorem dX11_mayGo_34 : decode cX11_mayGo 34 = .ok (.if_icmp .ne 5, 3) := by decide +kernel
theorem dX11_mayGo_37 : decode cX11_mayGo 37 = .ok (.iconst 0, 1) := by decide +kernel
theorem dX11_mayGo_38 : decode cX11_mayGo 38 = .ok (.ireturn, 1) := by decide +kernel
theorem dX11_mayGo_39 : decode cX11_mayGo 39 = .ok (.aload_n 0, 1) := by decide +kernel
theorem dX11_mayGo_40 : decode cX11_mayGo 40 = .ok (.iload_n 1, 1) := by decide +kernel
theorem dX11_mayGo_41 : decode cX11_mayGo 41 = .ok (.aload_n 0, 1) := by decide +kernel
theorem dX11_mayGo_42 : decode cX11_mayGo 42 = .ok (.getfield 44, 3) := by decide +kernel
theorem dX11_mayGo_45 : decode cX11_mayGo 45 = .ok (.bipush 40, 2) := by decide +kernel
theorem dX11_mayGo_47 : decode cX11_mayGo 47 = .ok (.iload_n 1, 1) := by decide +kernel
theorem dX11_mayGo_48 : decode cX11_mayGo 48 = .ok (.imul, 1) := by decide +kernel
theorem dX11_mayGo_49 : decode cX11_mayGo 49 = .ok (.iload_n 2, 1) := by decide +kernel
theorem dX11_mayGo_50 : decode cX11_mayGo 50 = .ok (.iadd, 1) := by decide +kernel
theorem dX11_mayGo_51 : decode cX11_mayGo 51 = .ok (.iaload, 1) := by decide +kernel
theorem dX11_mayGo_52 : decode cX11_mayGo 52 = .ok (.aload_n 0, 1) := by decide +kernel
theorem dX11_mayGo_53 : decode cX11_mayGo 53 = .ok (.getfield 47, 3) := by decide +kernel
theorem dX11_mayGo_56 : decode cX11_mayGo 56 = .ok (.bipush 40, 2) := by decide +kernel
theorem dX11_mayGo_58 : decode cX11_mayGo 58 = .ok (.iload_n 1, 1) := by decide +kernel
theorem dX11_mayGo_59 : decode cX11_mayGo 59 = .ok (.imul, 1) := by decide +kernel
theorem dX11_mayGo_60 : decode cX11_mayGo 60 = .ok (.iload_n 2, 1) := by decide +kernel
theorem dX11_mayGo_61 : decode cX11_mayGo 61 = .ok (.iadd, 1) := by decide +kernel
theorem dX11_mayGo_62 : decode cX11_mayGo 62 = .ok (.iaload, 1) := by decide +kernel
theorem dX11_mayGo_63 : decode cX11_mayGo 63 = .ok (.invokevirtual 282, 3) := by decide +kernel
theorem dX11_mayGo_66 : decode cX11_mayGo 66 = .ok (.ifCond .ne 7, 3) := by decide +kernel
theorem dX11_mayGo_69 : decode cX11_mayGo 69 = .ok (.iconst 1, 1) := by decide +kernel
theorem dX11_mayGo_70 : decode cX11_mayGo 70 = .ok (.goto 4, 3) := by decide +kernel
theorem dX11_mayGo_73 : decode cX11_mayGo 73 = .ok (.iconst 0, 1) := by decide +kernel
theorem dX11_mayGo_74 : decode cX11_mayGo 74 = .ok (.ireturn, 1) := by decide +kernel
theorem dX11_goes_0 : decode cX11_goes 0 = .ok (.aload_n 0, 1) := by decide +kernel
theorem dX11_goes_1 : decode cX11_goes 1 = .ok (.iload_n 1, 1) := by decide +kernel
theorem dX11_goes_2 : decode cX11_goes 2 = .ok (.invokevirtual 285, 3) := by decide +kernel
theorem dX11_goes_5 : decode cX11_goes 5 = .ok (.iload_n 2, 1) := by decide +kernel
theorem dX11_goes_6 : decode cX11_goes 6 = .ok (.istore_n 3, 1) := by decide +kernel
theorem dX11_goes_7 : decode cX11_goes 7 = .ok (.iload_n 3, 1) := by decide +kernel
theorem dX11_goes_8 : decode cX11_goes 8 = .ok (.aload_n 0, 1) := by decide +kernel
theorem dX11_goes_9 : decode cX11_goes 9 = .ok (.getfield 191, 3) := by decide +kernel
theorem dX11_goes_12 : decode cX11_goes 12 = .ok (.iconst 1, 1) := by decide +kernel
theorem dX11_goes_13 : decode cX11_goes 13 = .ok (.isub, 1) := by decide +kernel
theorem dX11_goes_14 : decode cX11_goes 14 = .ok (.if_icmp .ge 47, 3) := by decide +kernel
theorem dX11_goes_17 : decode cX11_goes 17 = .ok (.aload_n 0, 1) := by decide +kernel
theorem dX11_goes_18 : decode cX11_goes 18 = .ok (.getfield 44, 3) := by decide +kernel
theorem dX11_goes_21 : decode cX11_goes 21 = .ok (.bipush 40, 2) := by decide +kernel
theorem dX11_goes_23 : decode cX11_goes 23 = .ok (.iload_n 1, 1) := by decide +kernel
theorem dX11_goes_24 : decode cX11_goes 24 = .ok (.imul, 1) := by decide +kernel
theorem dX11_goes_25 : decode cX11_goes 25 = .ok (.iload_n 3, 1) := by decide +kernel
theorem dX11_goes_26 : decode cX11_goes 26 = .ok (.iadd, 1) := by decide +kernel
theorem dX11_goes_27 : decode cX11_goes 27 = .ok (.aload_n 0, 1) := by decide +kernel
theorem dX11_goes_28 : decode cX11_goes 28 = .ok (.getfield 86, 3) := by decide +kernel
theorem dX11_goes_31 : decode cX11_goes 31 = .ok (.iload_n 3, 1) := by decide +kernel
theorem dX11_goes_32 : decode cX11_goes 32 = .ok (.iconst 1, 1) := by decide +kernel
theorem dX11_goes_33 : decode cX11_goes 33 = .ok (.iadd, 1) := by decide +kernel
theorem dX11_goes_34 : decode cX11_goes 34 = .ok (.iaload, 1) := by decide +kernel
theorem dX11_goes_35 : decode cX11_goes 35 = .ok (.iastore, 1) := by decide +kernel
theorem dX11_goes_36 : decode cX11_goes 36 = .ok (.aload_n 0, 1) := by decide +kernel
theorem dX11_goes_37 : decode cX11_goes 37 = .ok (.getfield 47, 3) := by decide +kernel
theorem dX11_goes_40 : decode cX11_goes 40 = .ok (.bipush 40, 2) := by decide +kernel
theorem dX11_goes_42 : decode cX11_goes 42 = .ok (.iload_n 1, 1) := by decide +kernel
theorem dX11_goes_43 : decode cX11_goes 43 = .ok (.imul, 1) := by decide +kernel
theorem dX11_goes_44 : decode cX11_goes 44 = .ok (.iload_n 3, 1) := by decide +kernel
theorem dX11_goes_45 : decode cX11_goes 45 = .ok (.iadd, 1) := by decide +kernel
theorem dX11_goes_46 : decode cX11_goes 46 = .ok (.aload_n 0, 1) := by decide +kernel
theorem dX11_goes_47 : decode cX11_goes 47 = .ok (.getfield 89, 3) := by decide +kernel
theorem dX11_goes_50 : decode cX11_goes 50 = .ok (.iload_n 3, 1) := by decide +kernel
theorem dX11_goes_51 : decode cX11_goes 51 = .ok (.iconst 1, 1) := by decide +kernel
theorem dX11_goes_52 : decode cX11_goes 52 = .ok (.iadd, 1) := by decide +kernel
theorem dX11_goes_53 : decode cX11_goes 53 = .ok (.iaload, 1) := by decide +kernel
theorem dX11_goes_54 : decode cX11_goes 54 = .ok (.iastore, 1) := by decide +kernel
theorem dX11_goes_55 : decode cX11_goes 55 = .ok (.iinc 3 1, 3) := by decide +kernel
theorem dX11_goes_58 : decode cX11_goes 58 = .ok (.goto (-51), 3) := by decide +kernel
theorem dX11_goes_61 : decode cX11_goes 61 = .ok (.aload_n 0, 1) := by decide +kernel
theorem dX11_goes_62 : decode cX11_goes 62 = .ok (.getfield 41, 3) := by decide +kernel
theorem dX11_goes_65 : decode cX11_goes 65 = .ok (.iload_n 1, 1) := by decide +kernel
theorem dX11_goes_66 : decode cX11_goes 66 = .ok (.aload_n 0, 1) := by decide +kernel
theorem dX11_goes_67 : decode cX11_goes 67 = .ok (.getfield 191, 3) := by decide +kernel
theorem dX11_goes_70 : decode cX11_goes 70 = .ok (.iconst 1, 1) := by decide +kernel
theorem dX11_goes_71 : decode cX11_goes 71 = .ok (.isub, 1) := by decide +kernel
theorem dX11_goes_72 : decode cX11_goes 72 = .ok (.iastore, 1) := by decide +kernel
theorem dX11_goes_73 : decode cX11_goes 73 = .ok (.aload_n 0, 1) := by decide +kernel
theorem dX11_goes_74 : decode cX11_goes 74 = .ok (.iload_n 1, 1) := by decide +kernel
theorem dX11_goes_75 : decode cX11_goes 75 = .ok (.iconst 1, 1) := by decide +kernel
theorem dX11_goes_76 : decode cX11_goes 76 = .ok (.iload_n 2, 1) := by decide +kernel
theorem dX11_goes_77 : decode cX11_goes 77 = .ok (.invokevirtual 288, 3) := by decide +kernel
theorem dX11_goes_80 : decode cX11_goes 80 = .ok (.ifCond .eq 5, 3) := by decide +kernel
theorem dX11_goes_83 : decode cX11_goes 83 = .ok (.iconst 1, 1) := by decide +kernel
theorem dX11_goes_84 : decode cX11_goes 84 = .ok (.ireturn, 1) := by decide +kernel
theorem dX11_goes_85 : decode cX11_goes 85 = .ok (.aload_n 0, 1) := by decide +kernel
theorem dX11_goes_86 : decode cX11_goes 86 = .ok (.iload_n 1, 1) := by decide +kernel
theorem dX11_goes_87 : decode cX11_goes 87 = .ok (.invokevirtual 291, 3) := by decide +kernel
theorem dX11_goes_90 : decode cX11_goes 90 = .ok (.iconst 0, 1) := by decide +kernel
theorem dX11_goes_91 : decode cX11_goes 91 = .ok (.ireturn, 1) := by decide +kernel
theorem dX11_plain_0 : decode cX11_plain 0 = .ok (.iconst 0, 1) := by decide +kernel
theorem dX11_plain_1 : decode cX11_plain 1 = .ok (.istore 5, 2) := by decide +kernel
theorem dX11_plain_3 : decode cX11_plain 3 = .ok (.iload 5, 2) := by decide +kernel
theorem dX11_plain_5 : decode cX11_plain 5 = .ok (.aload_n 0, 1) := by decide +kernel
theorem dX11_plain_6 : decode cX11_plain 6 = .ok (.getfield 41, 3) := by decide +kernel
theorem dX11_plain_9 : decode cX11_plain 9 = .ok (.iload_n 1, 1) := by decide +kernel
theorem dX11_plain_10 : decode cX11_plain 10 = .ok (.iaload, 1) := by decide +kernel
theorem dX11_plain_11 : decode cX11_plain 11 = .ok (.if_icmp .ge 43, 3) := by decide +kernel
theorem dX11_plain_14 : decode cX11_plain 14 = .ok (.aload_n 0, 1) := by decide +kernel
theorem dX11_plain_15 : decode cX11_plain 15 = .ok (.getfield 104, 3) := by decide +kernel
theorem dX11_plain_18 : decode cX11_plain 18 = .ok (.iload 5, 2) := by decide +kernel
theorem dX11_plain_20 : decode cX11_plain 20 = .ok (.aload_n 0, 1) := by decide +kernel
theorem dX11_plain_21 : decode cX11_plain 21 = .ok (.iload_n 1, 1) := by decide +kernel
theorem dX11_plain_22 : decode cX11_plain 22 = .ok (.iload 5, 2) := by decide +kernel
theorem dX11_plain_24 : decode cX11_plain 24 = .ok (.invokevirtual 294, 3) := by decide +kernel
theorem dX11_plain_27 : decode cX11_plain 27 = .ok (.ifCond .eq 15, 3) := by decide +kernel
theorem dX11_plain_30 : decode cX11_plain 30 = .ok (.aload_n 0, 1) := by decide +kernel
theorem dX11_plain_31 : decode cX11_plain 31 = .ok (.iload_n 1, 1) := by decide +kernel
theorem dX11_plain_32 : decode cX11_plain 32 = .ok (.iload 5, 2) := by decide +kernel
theorem dX11_plain_34 : decode cX11_plain 34 = .ok (.invokevirtual 297, 3) := by decide +kernel
theorem dX11_plain_37 : decode cX11_plain 37 = .ok (.lload_n 2, 1) := by decide +kernel
theorem dX11_plain_38 : decode cX11_plain 38 = .ok (.lcmp, 1) := by decide +kernel
theorem dX11_plain_39 : decode cX11_plain 39 = .ok (.ifCond .le 7, 3) := by decide +kernel
theorem dX11_plain_42 : decode cX11_plain 42 = .ok (.iconst 1, 1) := by decide +kernel
theorem dX11_plain_43 : decode cX11_plain 43 = .ok (.goto 4, 3) := by decide +kernel
theorem dX11_plain_46 : decode cX11_plain 46 = .ok (.iconst 0, 1) := by decide +kernel
theorem dX11_plain_47 : decode cX11_plain 47 = .ok (.bastore, 1) := by decide +kernel
theorem dX11_plain_48 : decode cX11_plain 48 = .ok (.iinc 5 1, 3) := by decide +kernel
theorem dX11_plain_51 : decode cX11_plain 51 = .ok (.goto (-48), 3) := by decide +kernel
theorem dX11_plain_54 : decode cX11_plain 54 = .ok (.iconst (-1), 1) := by decide +kernel
theorem dX11_plain_55 : decode cX11_plain 55 = .ok (.istore 5, 2) := by decide +kernel
theorem dX11_plain_57 : decode cX11_plain 57 = .ok (.iconst 0, 1) := by decide +kernel
theorem dX11_plain_58 : decode cX11_plain 58 = .ok (.istore 6, 2) := by decide +kernel
theorem dX11_plain_60 : decode cX11_plain 60 = .ok (.iload 6, 2) := by decide +kernel
theorem dX11_plain_62 : decode cX11_plain 62 = .ok (.aload_n 0, 1) := by decide +kernel
theorem dX11_plain_63 : decode cX11_plain 63 = .ok (.getfield 41, 3) := by decide +kernel
theorem dX11_plain_66 : decode cX11_plain 66 = .ok (.iload_n 1, 1) := by decide +kernel
theorem dX11_plain_67 : decode cX11_plain 67 = .ok (.iaload, 1) := by decide +kernel
theorem dX11_plain_68 : decode cX11_plain 68 = .ok (.if_icmp .ge 47, 3) := by decide +kernel
theorem dX11_plain_71 : decode cX11_plain 71 = .ok (.aload_n 0, 1) := by decide +kernel
theorem dX11_plain_72 : decode cX11_plain 72 = .ok (.getfield 104, 3) := by decide +kernel
theorem dX11_plain_75 : decode cX11_plain 75 = .ok (.iload 6, 2) := by decide +kernel
theorem dX11_plain_77 : decode cX11_plain 77 = .ok (.baload, 1) := by decide +kernel
theorem dX11_plain_78 : decode cX11_plain 78 = .ok (.ifCond .ne 31, 3) := by decide +kernel
theorem dX11_plain_81 : decode cX11_plain 81 = .ok (.iload 5, 2) := by decide +kernel
theorem dX11_plain_83 : decode cX11_plain 83 = .ok (.iconst (-1), 1) := by decide +kernel
theorem dX11_plain_84 : decode cX11_plain 84 = .ok (.if_icmp .eq 21, 3) := by decide +kernel
theorem dX11_plain_87 : decode cX11_plain 87 = .ok (.aload_n 0, 1) := by decide +kernel
theorem dX11_plain_88 : decode cX11_plain 88 = .ok (.iload_n 1, 1) := by decide +kernel
theorem dX11_plain_89 : decode cX11_plain 89 = .ok (.iload 6, 2) := by decide +kernel
theorem dX11_plain_91 : decode cX11_plain 91 = .ok (.invokevirtual 297, 3) := by decide +kernel
theorem dX11_plain_94 : decode cX11_plain 94 = .ok (.aload_n 0, 1) := by decide +kernel
theorem dX11_plain_95 : decode cX11_plain 95 = .ok (.iload_n 1, 1) := by decide +kernel
theorem dX11_plain_96 : decode cX11_plain 96 = .ok (.iload 5, 2) := by decide +kernel
theorem dX11_plain_98 : decode cX11_plain 98 = .ok (.invokevirtual 297, 3) := by decide +kernel
theorem dX11_plain_101 : decode cX11_plain 101 = .ok (.lcmp, 1) := by decide +kernel
theorem dX11_plain_102 : decode cX11_plain 102 = .ok (.ifCond .ge 7, 3) := by decide +kernel
theorem dX11_plain_105 : decode cX11_plain 105 = .ok (.iload 6, 2) := by decide +kernel
theorem dX11_plain_107 : decode cX11_plain 107 = .ok (.istore 5, 2) := by decide +kernel
theorem dX11_plain_109 : decode cX11_plain 109 = .ok (.iinc 6 1, 3) := by decide +kernel
theorem dX11_plain_112 : decode cX11_plain 112 = .ok (.goto (-52), 3) := by decide +kernel
theorem dX11_plain_115 : decode cX11_plain 115 = .ok (.iload 5, 2) := by decide +kernel
theorem dX11_plain_117 : decode cX11_plain 117 = .ok (.iconst (-1), 1) := by decide +kernel
theorem dX11_plain_118 : decode cX11_plain 118 = .ok (.if_icmp .ne 5, 3) := by decide +kernel
theorem dX11_plain_121 : decode cX11_plain 121 = .ok (.iconst 0, 1) := by decide +kernel
theorem dX11_plain_122 : decode cX11_plain 122 = .ok (.ireturn, 1) := by decide +kernel
theorem dX11_plain_123 : decode cX11_plain 123 = .ok (.aload_n 0, 1) := by decide +kernel
theorem dX11_plain_124 : decode cX11_plain 124 = .ok (.getfield 44, 3) := by decide +kernel
theorem dX11_plain_127 : decode cX11_plain 127 = .ok (.bipush 40, 2) := by decide +kernel
theorem dX11_plain_129 : decode cX11_plain 129 = .ok (.iload_n 1, 1) := by decide +kernel
theorem dX11_plain_130 : decode cX11_plain 130 = .ok (.imul, 1) := by decide +kernel
theorem dX11_plain_131 : decode cX11_plain 131 = .ok (.iload 5, 2) := by decide +kernel
theorem dX11_plain_133 : decode cX11_plain 133 = .ok (.iadd, 1) := by decide +kernel
theorem dX11_plain_134 : decode cX11_plain 134 = .ok (.iaload, 1) := by decide +kernel
theorem dX11_plain_135 : decode cX11_plain 135 = .ok (.istore 6, 2) := by decide +kernel
theorem dX11_plain_137 : decode cX11_plain 137 = .ok (.aload_n 0, 1) := by decide +kernel
theorem dX11_plain_138 : decode cX11_plain 138 = .ok (.getfield 47, 3) := by decide +kernel
theorem dX11_plain_141 : decode cX11_plain 141 = .ok (.bipush 40, 2) := by decide +kernel
theorem dX11_plain_143 : decode cX11_plain 143 = .ok (.iload_n 1, 1) := by decide +kernel
theorem dX11_plain_144 : decode cX11_plain 144 = .ok (.imul, 1) := by decide +kernel
theorem dX11_plain_145 : decode cX11_plain 145 = .ok (.iload 5, 2) := by decide +kernel
theorem dX11_plain_147 : decode cX11_plain 147 = .ok (.iadd, 1) := by decide +kernel
theorem dX11_plain_148 : decode cX11_plain 148 = .ok (.iaload, 1) := by decide +kernel
theorem dX11_plain_149 : decode cX11_plain 149 = .ok (.istore 7, 2) := by decide +kernel
theorem dX11_plain_151 : decode cX11_plain 151 = .ok (.aload_n 0, 1) := by decide +kernel
theorem dX11_plain_152 : decode cX11_plain 152 = .ok (.iload_n 1, 1) := by decide +kernel
theorem dX11_plain_153 : decode cX11_plain 153 = .ok (.iload 5, 2) := by decide +kernel
theorem dX11_plain_155 : decode cX11_plain 155 = .ok (.invokevirtual 301, 3) := by decide +kernel
theorem dX11_plain_158 : decode cX11_plain 158 = .ok (.ifCond .eq 16, 3) := by decide +kernel
theorem dX11_plain_161 : decode cX11_plain 161 = .ok (.aload_n 0, 1) := by decide +kernel
theorem dX11_plain_162 : decode cX11_plain 162 = .ok (.iload_n 1, 1) := by decide +kernel
theorem dX11_plain_163 : decode cX11_plain 163 = .ok (.iload 6, 2) := by decide +kernel
theorem dX11_plain_165 : decode cX11_plain 165 = .ok (.iload 7, 2) := by decide +kernel
theorem dX11_plain_167 : decode cX11_plain 167 = .ok (.iload 4, 2) := by decide +kernel
theorem dX11_plain_169 : decode cX11_plain 169 = .ok (.invokevirtual 304, 3) := by decide +kernel
theorem dX11_plain_172 : decode cX11_plain 172 = .ok (.iconst 1, 1) := by decide +kernel
theorem dX11_plain_173 : decode cX11_plain 173 = .ok (.ireturn, 1) := by decide +kernel
theorem dX11_plain_174 : decode cX11_plain 174 = .ok (.aload_n 0, 1) := by decide +kernel
theorem dX11_plain_175 : decode cX11_plain 175 = .ok (.getfield 104, 3) := by decide +kernel
theorem dX11_plain_178 : decode cX11_plain 178 = .ok (.iload 5, 2) := by decide +kernel
theorem dX11_plain_180 : decode cX11_plain 180 = .ok (.iconst 1, 1) := by decide +kernel
theorem dX11_plain_181 : decode cX11_plain 181 = .ok (.bastore, 1) := by decide +kernel
theorem dX11_plain_182 : decode cX11_plain 182 = .ok (.goto (-128), 3) := by decide +kernel
theorem dX11_plainAll_0 : decode cX11_plainAll 0 = .ok (.iconst 0, 1) := by decide +kernel
theorem dX11_plainAll_1 : decode cX11_plainAll 1 = .ok (.istore 4, 2) := by decide +kernel
theorem dX11_plainAll_3 : decode cX11_plainAll 3 = .ok (.aload_n 0, 1) := by decide +kernel
theorem dX11_plainAll_4 : decode cX11_plainAll 4 = .ok (.iload_n 1, 1) := by decide +kernel
theorem dX11_plainAll_5 : decode cX11_plainAll 5 = .ok (.iload_n 2, 1) := by decide +kernel
theorem dX11_plainAll_6 : decode cX11_plainAll 6 = .ok (.i2l, 1) := by decide +kernel
theorem dX11_plainAll_7 : decode cX11_plainAll 7 = .ok (.iload_n 3, 1) := by decide +kernel
theorem dX11_plainAll_8 : decode cX11_plainAll 8 = .ok (.invokevirtual 308, 3) := by decide +kernel
theorem dX11_plainAll_11 : decode cX11_plainAll 11 = .ok (.ifCond .eq 9, 3) := by decide +kernel
theorem dX11_plainAll_14 : decode cX11_plainAll 14 = .ok (.iinc 4 1, 3) := by decide +kernel
theorem dX11_plainAll_17 : decode cX11_plainAll 17 = .ok (.goto (-14), 3) := by decide +kernel
theorem dX11_plainAll_20 : decode cX11_plainAll 20 = .ok (.iload 4, 2) := by decide +kernel
theorem dX11_plainAll_22 : decode cX11_plainAll 22 = .ok (.ireturn, 1) := by decide +kernel
theorem dX11_wrong_0 : decode cX11_wrong 0 = .ok (.aload_n 0, 1) := by decide +kernel
theorem dX11_wrong_1 : decode cX11_wrong 1 = .ok (.iload_n 1, 1) := by decide +kernel
theorem dX11_wrong_2 : decode cX11_wrong 2 = .ok (.invokevirtual 133, 3) := by decide +kernel
theorem dX11_wrong_5 : decode cX11_wrong 5 = .ok (.ifCond .ne 7, 3) := by decide +kernel
theorem dX11_wrong_8 : decode cX11_wrong 8 = .ok (.iconst 1, 1) := by decide +kernel
theorem dX11_wrong_9 : decode cX11_wrong 9 = .ok (.goto 18, 3) := by decide +kernel
theorem dX11_wrong_12 : decode cX11_wrong 12 = .ok (.aload_n 0, 1) := by decide +kernel
theorem dX11_wrong_13 : decode cX11_wrong 13 = .ok (.getfield 22, 3) := by decide +kernel
theorem dX11_wrong_16 : decode cX11_wrong 16 = .ok (.iload_n 1, 1) := by decide +kernel
theorem dX11_wrong_17 : decode cX11_wrong 17 = .ok (.iaload, 1) := by decide +kernel
theorem dX11_wrong_18 : decode cX11_wrong 18 = .ok (.iconst 1, 1) := by decide +kernel
theorem dX11_wrong_19 : decode cX11_wrong 19 = .ok (.if_icmp .eq 7, 3) := by decide +kernel
theorem dX11_wrong_22 : decode cX11_wrong 22 = .ok (.iconst 2, 1) := by decide +kernel
theorem dX11_wrong_23 : decode cX11_wrong 23 = .ok (.goto 4, 3) := by decide +kernel
theorem dX11_wrong_26 : decode cX11_wrong 26 = .ok (.iconst 0, 1) := by decide +kernel
theorem dX11_wrong_27 : decode cX11_wrong 27 = .ok (.ireturn, 1) := by decide +kernel
theorem dX11_isPlainable_0 : decode cX11_isPlainable 0 = .ok (.aload_n 0, 1) := by decide +kernel
theorem dX11_isPlainable_1 : decode cX11_isPlainable 1 = .ok (.getfield 7, 3) := by decide +kernel
theorem dX11_isPlainable_4 : decode cX11_isPlainable 4 = .ok (.iload_n 1, 1) := by decide +kernel
theorem dX11_isPlainable_5 : decode cX11_isPlainable 5 = .ok (.iaload, 1) := by decide +kernel
theorem dX11_isPlainable_6 : decode cX11_isPlainable 6 = .ok (.ifCond .eq 18, 3) := by decide +kernel
theorem dX11_isPlainable_9 : decode cX11_isPlainable 9 = .ok (.aload_n 0, 1) := by decide +kernel
theorem dX11_isPlainable_10 : decode cX11_isPlainable 10 = .ok (.getfield 7, 3) := by decide +kernel
theorem dX11_isPlainable_13 : decode cX11_isPlainable 13 = .ok (.iload_n 1, 1) := by decide +kernel
theorem dX11_isPlainable_14 : decode cX11_isPlainable 14 = .ok (.iaload, 1) := by decide +kernel
theorem dX11_isPlainable_15 : decode cX11_isPlainable 15 = .ok (.bipush 6, 2) := by decide +kernel
theorem dX11_isPlainable_17 : decode cX11_isPlainable 17 = .ok (.if_icmp .eq 7, 3) := by decide +kernel
theorem dX11_isPlainable_20 : decode cX11_isPlainable 20 = .ok (.iconst 1, 1) := by decide +kernel
theorem dX11_isPlainable_21 : decode cX11_isPlainable 21 = .ok (.goto 4, 3) := by decide +kernel
theorem dX11_isPlainable_24 : decode cX11_isPlainable 24 = .ok (.iconst 0, 1) := by decide +kernel
theorem dX11_isPlainable_25 : decode cX11_isPlainable 25 = .ok (.ireturn, 1) := by decide +kernel
theorem dX11_plainer_0 : decode cX11_plainer 0 = .ok (.aload_n 0, 1) := by decide +kernel
theorem dX11_plainer_1 : decode cX11_plainer 1 = .ok (.iload_n 1, 1) := by decide +kernel
theorem dX11_plainer_2 : decode cX11_plainer 2 = .ok (.invokevirtual 312, 3) := by decide +kernel
theorem dX11_plainer_5 : decode cX11_plainer 5 = .ok (.istore_n 3, 1) := by decide +kernel
theorem dX11_plainer_6 : decode cX11_plainer 6 = .ok (.iload_n 3, 1) := by decide +kernel
theorem dX11_plainer_7 : decode cX11_plainer 7 = .ok (.ifCond .le 7, 3) := by decide +kernel
theorem dX11_plainer_10 : decode cX11_plainer 10 = .ok (.iload_n 3, 1) := by decide +kernel
theorem dX11_plainer_11 : decode cX11_plainer 11 = .ok (.goto 37, 3) := by decide +kernel
theorem dX11_plainer_14 : decode cX11_plainer 14 = .ok (.aload_n 0, 1) := by decide +kernel
theorem dX11_plainer_15 : decode cX11_plainer 15 = .ok (.iload_n 1, 1) := by decide +kernel
theorem dX11_plainer_16 : decode cX11_plainer 16 = .ok (.invokevirtual 315, 3) := by decide +kernel
theorem dX11_plainer_19 : decode cX11_plainer 19 = .ok (.ifCond .ne 7, 3) := by decide +kernel
theorem dX11_plainer_22 : decode cX11_plainer 22 = .ok (.iconst 3, 1) := by decide +kernel
theorem dX11_plainer_23 : decode cX11_plainer 23 = .ok (.goto 25, 3) := by decide +kernel
theorem dX11_plainer_26 : decode cX11_plainer 26 = .ok (.iload_n 2, 1) := by decide +kernel
theorem dX11_plainer_27 : decode cX11_plainer 27 = .ok (.ifCond .ge 7, 3) := by decide +kernel
theorem dX11_plainer_30 : decode cX11_plainer 30 = .ok (.iconst 4, 1) := by decide +kernel
theorem dX11_plainer_31 : decode cX11_plainer 31 = .ok (.goto 17, 3) := by decide +kernel
theorem dX11_plainer_34 : decode cX11_plainer 34 = .ok (.aload_n 0, 1) := by decide +kernel
theorem dX11_plainer_35 : decode cX11_plainer 35 = .ok (.getfield 25, 3) := by decide +kernel
theorem dX11_plainer_38 : decode cX11_plainer 38 = .ok (.iload_n 1, 1) := by decide +kernel
theorem dX11_plainer_39 : decode cX11_plainer 39 = .ok (.baload, 1) := by decide +kernel
theorem dX11_plainer_40 : decode cX11_plainer 40 = .ok (.ifCond .eq 7, 3) := by decide +kernel
theorem dX11_plainer_43 : decode cX11_plainer 43 = .ok (.iconst 5, 1) := by decide +kernel
theorem dX11_plainer_44 : decode cX11_plainer 44 = .ok (.goto 4, 3) := by decide +kernel
theorem dX11_plainer_47 : decode cX11_plainer 47 = .ok (.iconst 0, 1) := by decide +kernel
theorem dX11_plainer_48 : decode cX11_plainer 48 = .ok (.istore_n 3, 1) := by decide +kernel
theorem dX11_plainer_49 : decode cX11_plainer 49 = .ok (.iload_n 3, 1) := by decide +kernel
theorem dX11_plainer_50 : decode cX11_plainer 50 = .ok (.ifCond .le 9, 3) := by decide +kernel
theorem dX11_plainer_53 : decode cX11_plainer 53 = .ok (.aload_n 0, 1) := by decide +kernel
theorem dX11_plainer_54 : decode cX11_plainer 54 = .ok (.iload_n 3, 1) := by decide +kernel
theorem dX11_plainer_55 : decode cX11_plainer 55 = .ok (.invokevirtual 126, 3) := by decide +kernel
theorem dX11_plainer_58 : decode cX11_plainer 58 = .ok (.ireturn, 1) := by decide +kernel
theorem dX11_plainer_59 : decode cX11_plainer 59 = .ok (.aload_n 0, 1) := by decide +kernel
theorem dX11_plainer_60 : decode cX11_plainer 60 = .ok (.iconst 1, 1) := by decide +kernel
theorem dX11_plainer_61 : decode cX11_plainer 61 = .ok (.iload_n 1, 1) := by decide +kernel
theorem dX11_plainer_62 : decode cX11_plainer 62 = .ok (.iload_n 2, 1) := by decide +kernel
theorem dX11_plainer_63 : decode cX11_plainer 63 = .ok (.invokevirtual 318, 3) := by decide +kernel
theorem dX11_plainer_66 : decode cX11_plainer 66 = .ok (.ireturn, 1) := by decide +kernel
theorem dX11_tell_0 : decode cX11_tell 0 = .ok (.aload_n 0, 1) := by decide +kernel
theorem dX11_tell_1 : decode cX11_tell 1 = .ok (.invokevirtual 322, 3) := by decide +kernel
theorem dX11_tell_4 : decode cX11_tell 4 = .ok (.iconst 0, 1) := by decide +kernel
theorem dX11_tell_5 : decode cX11_tell 5 = .ok (.istore 4, 2) := by decide +kernel
theorem dX11_tell_7 : decode cX11_tell 7 = .ok (.aload_n 0, 1) := by decide +kernel
theorem dX11_tell_8 : decode cX11_tell 8 = .ok (.getfield 279, 3) := by decide +kernel
theorem dX11_tell_11 : decode cX11_tell 11 = .ok (.istore 5, 2) := by decide +kernel
theorem dX11_tell_13 : decode cX11_tell 13 = .ok (.iload_n 1, 1) := by decide +kernel
theorem dX11_tell_14 : decode cX11_tell 14 = .ok (.iconst 1, 1) := by decide +kernel
theorem dX11_tell_15 : decode cX11_tell 15 = .ok (.if_icmp .ne 20, 3) := by decide +kernel
theorem dX11_tell_18 : decode cX11_tell 18 = .ok (.aload_n 0, 1) := by decide +kernel
theorem dX11_tell_19 : decode cX11_tell 19 = .ok (.iload_n 2, 1) := by decide +kernel
theorem dX11_tell_20 : decode cX11_tell 20 = .ok (.iload_n 3, 1) := by decide +kernel
theorem dX11_tell_21 : decode cX11_tell 21 = .ok (.aload_n 0, 1) := by decide +kernel
theorem dX11_tell_22 : decode cX11_tell 22 = .ok (.getfield 257, 3) := by decide +kernel
theorem dX11_tell_25 : decode cX11_tell 25 = .ok (.iconst 1, 1) := by decide +kernel
theorem dX11_tell_26 : decode cX11_tell 26 = .ok (.iadd, 1) := by decide +kernel
theorem dX11_tell_27 : decode cX11_tell 27 = .ok (.invokevirtual 325, 3) := by decide +kernel
theorem dX11_tell_30 : decode cX11_tell 30 = .ok (.istore 4, 2) := by decide +kernel
theorem dX11_tell_32 : decode cX11_tell 32 = .ok (.goto 90, 3) := by decide +kernel
theorem dX11_tell_35 : decode cX11_tell 35 = .ok (.iconst 1, 1) := by decide +kernel
theorem dX11_tell_36 : decode cX11_tell 36 = .ok (.istore 6, 2) := by decide +kernel
theorem dX11_tell_38 : decode cX11_tell 38 = .ok (.iload 6, 2) := by decide +kernel
theorem dX11_tell_40 : decode cX11_tell 40 = .ok (.ifCond .eq 82, 3) := by decide +kernel
theorem dX11_tell_43 : decode cX11_tell 43 = .ok (.iload 4, 2) := by decide +kernel
theorem dX11_tell_45 : decode cX11_tell 45 = .ok (.istore 7, 2) := by decide +kernel
theorem dX11_tell_47 : decode cX11_tell 47 = .ok (.iconst 0, 1) := by decide +kernel
theorem dX11_tell_48 : decode cX11_tell 48 = .ok (.istore 8, 2) := by decide +kernel
theorem dX11_tell_50 : decode cX11_tell 50 = .ok (.iload 8, 2) := by decide +kernel
theorem dX11_tell_52 : decode cX11_tell 52 = .ok (.aload_n 0, 1) := by decide +kernel
theorem dX11_tell_53 : decode cX11_tell 53 = .ok (.getfield 130, 3) := by decide +kernel
theorem dX11_tell_56 : decode cX11_tell 56 = .ok (.if_icmp .ge 49, 3) := by decide +kernel
theorem dX11_tell_59 : decode cX11_tell 59 = .ok (.iload 4, 2) := by decide +kernel
theorem dX11_tell_61 : decode cX11_tell 61 = .ok (.aload_n 0, 1) := by decide +kernel
theorem dX11_tell_62 : decode cX11_tell 62 = .ok (.iload 8, 2) := by decide +kernel
theorem dX11_tell_64 : decode cX11_tell 64 = .ok (.invokevirtual 197, 3) := by decide +kernel
theorem dX11_tell_67 : decode cX11_tell 67 = .ok (.ifCond .eq 28, 3) := by decide +kernel
theorem dX11_tell_70 : decode cX11_tell 70 = .ok (.aload_n 0, 1) := by decide +kernel
theorem dX11_tell_71 : decode cX11_tell 71 = .ok (.iload 8, 2) := by decide +kernel
theorem dX11_tell_73 : decode cX11_tell 73 = .ok (.invokevirtual 315, 3) := by decide +kernel
theorem dX11_tell_76 : decode cX11_tell 76 = .ok (.ifCond .eq 19, 3) := by decide +kernel
theorem dX11_tell_79 : decode cX11_tell 79 = .ok (.aload_n 0, 1) := by decide +kernel
theorem dX11_tell_80 : decode cX11_tell 80 = .ok (.iload 8, 2) := by decide +kernel
theorem dX11_tell_82 : decode cX11_tell 82 = .ok (.iload_n 3, 1) := by decide +kernel
theorem dX11_tell_83 : decode cX11_tell 83 = .ok (.aload_n 0, 1) := by decide +kernel
theorem dX11_tell_84 : decode cX11_tell 84 = .ok (.getfield 257, 3) := by decide +kernel
theorem dX11_tell_87 : decode cX11_tell 87 = .ok (.iconst 1, 1) := by decide +kernel
theorem dX11_tell_88 : decode cX11_tell 88 = .ok (.iadd, 1) := by decide +kernel
theorem dX11_tell_89 : decode cX11_tell 89 = .ok (.invokevirtual 325, 3) := by decide +kernel
theorem dX11_tell_92 : decode cX11_tell 92 = .ok (.goto 4, 3) := by decide +kernel
theorem dX11_tell_95 : decode cX11_tell 95 = .ok (.iconst 0, 1) := by decide +kernel
theorem dX11_tell_96 : decode cX11_tell 96 = .ok (.iadd, 1) := by decide +kernel
theorem dX11_tell_97 : decode cX11_tell 97 = .ok (.istore 4, 2) := by decide +kernel
theorem dX11_tell_99 : decode cX11_tell 99 = .ok (.iinc 8 1, 3) := by decide +kernel
theorem dX11_tell_102 : decode cX11_tell 102 = .ok (.goto (-52), 3) := by decide +kernel
theorem dX11_tell_105 : decode cX11_tell 105 = .ok (.iload 4, 2) := by decide +kernel
theorem dX11_tell_107 : decode cX11_tell 107 = .ok (.iload 7, 2) := by decide +kernel
theorem dX11_tell_109 : decode cX11_tell 109 = .ok (.if_icmp .le 7, 3) := by decide +kernel
theorem dX11_tell_112 : decode cX11_tell 112 = .ok (.iconst 1, 1) := by decide +kernel
theorem dX11_tell_113 : decode cX11_tell 113 = .ok (.goto 4, 3) := by decide +kernel
theorem dX11_tell_116 : decode cX11_tell 116 = .ok (.iconst 0, 1) := by decide +kernel
theorem dX11_tell_117 : decode cX11_tell 117 = .ok (.istore 6, 2) := by decide +kernel
theorem dX11_tell_119 : decode cX11_tell 119 = .ok (.goto (-81), 3) := by decide +kernel
theorem dX11_tell_122 : decode cX11_tell 122 = .ok (.iload 4, 2) := by decide +kernel
theorem dX11_tell_124 : decode cX11_tell 124 = .ok (.ifCond .ne 10, 3) := by decide +kernel
theorem dX11_tell_127 : decode cX11_tell 127 = .ok (.aload_n 0, 1) := by decide +kernel
theorem dX11_tell_128 : decode cX11_tell 128 = .ok (.bipush 8, 2) := by decide +kernel
theorem dX11_tell_130 : decode cX11_tell 130 = .ok (.invokevirtual 126, 3) := by decide +kernel
theorem dX11_tell_133 : decode cX11_tell 133 = .ok (.ireturn, 1) := by decide +kernel
theorem dX11_tell_134 : decode cX11_tell 134 = .ok (.aload_n 0, 1) := by decide +kernel
theorem dX11_tell_135 : decode cX11_tell 135 = .ok (.iload 5, 2) := by decide +kernel
theorem dX11_tell_137 : decode cX11_tell 137 = .ok (.invokevirtual 328, 3) := by decide +kernel
theorem dX11_tell_140 : decode cX11_tell 140 = .ok (.aload_n 0, 1) := by decide +kernel
theorem dX11_tell_141 : decode cX11_tell 141 = .ok (.iload_n 1, 1) := by decide +kernel
theorem dX11_tell_142 : decode cX11_tell 142 = .ok (.iload_n 1, 1) := by decide +kernel
theorem dX11_tell_143 : decode cX11_tell 143 = .ok (.iconst 1, 1) := by decide +kernel
end
section
theorem dX11_tell_144 : decode cX11_tell 144 = .ok (.if_icmp .ne 7, 3) := by decide +kernel
theorem dX11_tell_147 : decode cX11_tell 147 = .ok (.iload_n 2, 1) := by decide +kernel
theorem dX11_tell_148 : decode cX11_tell 148 = .ok (.goto 4, 3) := by decide +kernel
theorem dX11_tell_151 : decode cX11_tell 151 = .ok (.iconst (-1), 1) := by decide +kernel
theorem dX11_tell_152 : decode cX11_tell 152 = .ok (.iload 4, 2) := by decide +kernel
theorem dX11_tell_154 : decode cX11_tell 154 = .ok (.invokevirtual 331, 3) := by decide +kernel
theorem dX11_tell_157 : decode cX11_tell 157 = .ok (.istore 6, 2) := by decide +kernel
theorem dX11_tell_159 : decode cX11_tell 159 = .ok (.iload 4, 2) := by decide +kernel
theorem dX11_tell_161 : decode cX11_tell 161 = .ok (.ireturn, 1) := by decide +kernel
theorem dX11_squeeze_0 : decode cX11_squeeze 0 = .ok (.iconst 0, 1) := by decide +kernel
theorem dX11_squeeze_1 : decode cX11_squeeze 1 = .ok (.istore_n 2, 1) := by decide +kernel
theorem dX11_squeeze_2 : decode cX11_squeeze 2 = .ok (.iconst 0, 1) := by decide +kernel
theorem dX11_squeeze_3 : decode cX11_squeeze 3 = .ok (.istore_n 3, 1) := by decide +kernel
theorem dX11_squeeze_4 : decode cX11_squeeze 4 = .ok (.iload_n 3, 1) := by decide +kernel
theorem dX11_squeeze_5 : decode cX11_squeeze 5 = .ok (.aload_n 0, 1) := by decide +kernel
theorem dX11_squeeze_6 : decode cX11_squeeze 6 = .ok (.getfield 279, 3) := by decide +kernel
theorem dX11_squeeze_9 : decode cX11_squeeze 9 = .ok (.if_icmp .ge 81, 3) := by decide +kernel
theorem dX11_squeeze_12 : decode cX11_squeeze 12 = .ok (.iload_n 3, 1) := by decide +kernel
theorem dX11_squeeze_13 : decode cX11_squeeze 13 = .ok (.iload_n 1, 1) := by decide +kernel
theorem dX11_squeeze_14 : decode cX11_squeeze 14 = .ok (.if_icmp .ge 19, 3) := by decide +kernel
theorem dX11_squeeze_17 : decode cX11_squeeze 17 = .ok (.aload_n 0, 1) := by decide +kernel
theorem dX11_squeeze_18 : decode cX11_squeeze 18 = .ok (.getfield 68, 3) := by decide +kernel
theorem dX11_squeeze_21 : decode cX11_squeeze 21 = .ok (.iload_n 3, 1) := by decide +kernel
theorem dX11_squeeze_22 : decode cX11_squeeze 22 = .ok (.iaload, 1) := by decide +kernel
theorem dX11_squeeze_23 : decode cX11_squeeze 23 = .ok (.aload_n 0, 1) := by decide +kernel
theorem dX11_squeeze_24 : decode cX11_squeeze 24 = .ok (.getfield 257, 3) := by decide +kernel
theorem dX11_squeeze_27 : decode cX11_squeeze 27 = .ok (.if_icmp .le 6, 3) := by decide +kernel
theorem dX11_squeeze_30 : decode cX11_squeeze 30 = .ok (.goto 54, 3) := by decide +kernel
theorem dX11_squeeze_33 : decode cX11_squeeze 33 = .ok (.aload_n 0, 1) := by decide +kernel
theorem dX11_squeeze_34 : decode cX11_squeeze 34 = .ok (.getfield 59, 3) := by decide +kernel
theorem dX11_squeeze_37 : decode cX11_squeeze 37 = .ok (.iload_n 2, 1) := by decide +kernel
theorem dX11_squeeze_38 : decode cX11_squeeze 38 = .ok (.aload_n 0, 1) := by decide +kernel
theorem dX11_squeeze_39 : decode cX11_squeeze 39 = .ok (.getfield 59, 3) := by decide +kernel
theorem dX11_squeeze_42 : decode cX11_squeeze 42 = .ok (.iload_n 3, 1) := by decide +kernel
theorem dX11_squeeze_43 : decode cX11_squeeze 43 = .ok (.iaload, 1) := by decide +kernel
theorem dX11_squeeze_44 : decode cX11_squeeze 44 = .ok (.iastore, 1) := by decide +kernel
theorem dX11_squeeze_45 : decode cX11_squeeze 45 = .ok (.aload_n 0, 1) := by decide +kernel
theorem dX11_squeeze_46 : decode cX11_squeeze 46 = .ok (.getfield 62, 3) := by decide +kernel
theorem dX11_squeeze_49 : decode cX11_squeeze 49 = .ok (.iload_n 2, 1) := by decide +kernel
theorem dX11_squeeze_50 : decode cX11_squeeze 50 = .ok (.aload_n 0, 1) := by decide +kernel
theorem dX11_squeeze_51 : decode cX11_squeeze 51 = .ok (.getfield 62, 3) := by decide +kernel
theorem dX11_squeeze_54 : decode cX11_squeeze 54 = .ok (.iload_n 3, 1) := by decide +kernel
theorem dX11_squeeze_55 : decode cX11_squeeze 55 = .ok (.iaload, 1) := by decide +kernel
theorem dX11_squeeze_56 : decode cX11_squeeze 56 = .ok (.iastore, 1) := by decide +kernel
theorem dX11_squeeze_57 : decode cX11_squeeze 57 = .ok (.aload_n 0, 1) := by decide +kernel
theorem dX11_squeeze_58 : decode cX11_squeeze 58 = .ok (.getfield 65, 3) := by decide +kernel
theorem dX11_squeeze_61 : decode cX11_squeeze 61 = .ok (.iload_n 2, 1) := by decide +kernel
theorem dX11_squeeze_62 : decode cX11_squeeze 62 = .ok (.aload_n 0, 1) := by decide +kernel
theorem dX11_squeeze_63 : decode cX11_squeeze 63 = .ok (.getfield 65, 3) := by decide +kernel
theorem dX11_squeeze_66 : decode cX11_squeeze 66 = .ok (.iload_n 3, 1) := by decide +kernel
theorem dX11_squeeze_67 : decode cX11_squeeze 67 = .ok (.iaload, 1) := by decide +kernel
theorem dX11_squeeze_68 : decode cX11_squeeze 68 = .ok (.iastore, 1) := by decide +kernel
theorem dX11_squeeze_69 : decode cX11_squeeze 69 = .ok (.aload_n 0, 1) := by decide +kernel
theorem dX11_squeeze_70 : decode cX11_squeeze 70 = .ok (.getfield 68, 3) := by decide +kernel
theorem dX11_squeeze_73 : decode cX11_squeeze 73 = .ok (.iload_n 2, 1) := by decide +kernel
theorem dX11_squeeze_74 : decode cX11_squeeze 74 = .ok (.aload_n 0, 1) := by decide +kernel
theorem dX11_squeeze_75 : decode cX11_squeeze 75 = .ok (.getfield 68, 3) := by decide +kernel
theorem dX11_squeeze_78 : decode cX11_squeeze 78 = .ok (.iload_n 3, 1) := by decide +kernel
theorem dX11_squeeze_79 : decode cX11_squeeze 79 = .ok (.iaload, 1) := by decide +kernel
theorem dX11_squeeze_80 : decode cX11_squeeze 80 = .ok (.iastore, 1) := by decide +kernel
theorem dX11_squeeze_81 : decode cX11_squeeze 81 = .ok (.iinc 2 1, 3) := by decide +kernel
theorem dX11_squeeze_84 : decode cX11_squeeze 84 = .ok (.iinc 3 1, 3) := by decide +kernel
theorem dX11_squeeze_87 : decode cX11_squeeze 87 = .ok (.goto (-83), 3) := by decide +kernel
theorem dX11_squeeze_90 : decode cX11_squeeze 90 = .ok (.aload_n 0, 1) := by decide +kernel
theorem dX11_squeeze_91 : decode cX11_squeeze 91 = .ok (.iload_n 2, 1) := by decide +kernel
theorem dX11_squeeze_92 : decode cX11_squeeze 92 = .ok (.putfield 279, 3) := by decide +kernel
theorem dX11_squeeze_95 : decode cX11_squeeze 95 = .ok (.return_, 1) := by decide +kernel
theorem dX11_run_0 : decode cX11_run 0 = .ok (.iload_n 1, 1) := by decide +kernel
theorem dX11_run_1 : decode cX11_run 1 = .ok (.ifCond .ge 9, 3) := by decide +kernel
theorem dX11_run_4 : decode cX11_run 4 = .ok (.aload_n 0, 1) := by decide +kernel
theorem dX11_run_5 : decode cX11_run 5 = .ok (.iconst 4, 1) := by decide +kernel
theorem dX11_run_6 : decode cX11_run 6 = .ok (.invokevirtual 126, 3) := by decide +kernel
theorem dX11_run_9 : decode cX11_run 9 = .ok (.ireturn, 1) := by decide +kernel
theorem dX11_run_10 : decode cX11_run 10 = .ok (.aload_n 0, 1) := by decide +kernel
theorem dX11_run_11 : decode cX11_run 11 = .ok (.bipush 10, 2) := by decide +kernel
theorem dX11_run_13 : decode cX11_run 13 = .ok (.iconst (-1), 1) := by decide +kernel
theorem dX11_run_14 : decode cX11_run 14 = .ok (.iload_n 1, 1) := by decide +kernel
theorem dX11_run_15 : decode cX11_run 15 = .ok (.invokevirtual 318, 3) := by decide +kernel
theorem dX11_run_18 : decode cX11_run 18 = .ok (.ireturn, 1) := by decide +kernel
theorem dX11_changes_0 : decode cX11_changes 0 = .ok (.aload_n 0, 1) := by decide +kernel
theorem dX11_changes_1 : decode cX11_changes 1 = .ok (.iload_n 1, 1) := by decide +kernel
theorem dX11_changes_2 : decode cX11_changes 2 = .ok (.iload_n 2, 1) := by decide +kernel
theorem dX11_changes_3 : decode cX11_changes 3 = .ok (.iconst (-1), 1) := by decide +kernel
theorem dX11_changes_4 : decode cX11_changes 4 = .ok (.invokevirtual 288, 3) := by decide +kernel
theorem dX11_changes_7 : decode cX11_changes 7 = .ok (.ifCond .ne 15, 3) := by decide +kernel
theorem dX11_changes_10 : decode cX11_changes 10 = .ok (.aload_n 0, 1) := by decide +kernel
theorem dX11_changes_11 : decode cX11_changes 11 = .ok (.iload_n 1, 1) := by decide +kernel
theorem dX11_changes_12 : decode cX11_changes 12 = .ok (.invokevirtual 291, 3) := by decide +kernel
theorem dX11_changes_15 : decode cX11_changes 15 = .ok (.aload_n 0, 1) := by decide +kernel
theorem dX11_changes_16 : decode cX11_changes 16 = .ok (.bipush 7, 2) := by decide +kernel
theorem dX11_changes_18 : decode cX11_changes 18 = .ok (.invokevirtual 276, 3) := by decide +kernel
theorem dX11_changes_21 : decode cX11_changes 21 = .ok (.ireturn, 1) := by decide +kernel
theorem dX11_changes_22 : decode cX11_changes 22 = .ok (.aload_n 0, 1) := by decide +kernel
theorem dX11_changes_23 : decode cX11_changes 23 = .ok (.iload_n 1, 1) := by decide +kernel
theorem dX11_changes_24 : decode cX11_changes 24 = .ok (.invokevirtual 230, 3) := by decide +kernel
theorem dX11_changes_27 : decode cX11_changes 27 = .ok (.aload_n 0, 1) := by decide +kernel
theorem dX11_changes_28 : decode cX11_changes 28 = .ok (.getfield 7, 3) := by decide +kernel
theorem dX11_changes_31 : decode cX11_changes 31 = .ok (.iload_n 1, 1) := by decide +kernel
theorem dX11_changes_32 : decode cX11_changes 32 = .ok (.iaload, 1) := by decide +kernel
theorem dX11_changes_33 : decode cX11_changes 33 = .ok (.istore_n 3, 1) := by decide +kernel
theorem dX11_changes_34 : decode cX11_changes 34 = .ok (.aload_n 0, 1) := by decide +kernel
theorem dX11_changes_35 : decode cX11_changes 35 = .ok (.iload_n 1, 1) := by decide +kernel
theorem dX11_changes_36 : decode cX11_changes 36 = .ok (.invokevirtual 291, 3) := by decide +kernel
theorem dX11_changes_39 : decode cX11_changes 39 = .ok (.aload_n 0, 1) := by decide +kernel
theorem dX11_changes_40 : decode cX11_changes 40 = .ok (.invokevirtual 322, 3) := by decide +kernel
theorem dX11_changes_43 : decode cX11_changes 43 = .ok (.aload_n 0, 1) := by decide +kernel
theorem dX11_changes_44 : decode cX11_changes 44 = .ok (.getfield 7, 3) := by decide +kernel
theorem dX11_changes_47 : decode cX11_changes 47 = .ok (.iload_n 1, 1) := by decide +kernel
theorem dX11_changes_48 : decode cX11_changes 48 = .ok (.iload_n 3, 1) := by decide +kernel
theorem dX11_changes_49 : decode cX11_changes 49 = .ok (.iastore, 1) := by decide +kernel
theorem dX11_changes_50 : decode cX11_changes 50 = .ok (.aload_n 0, 1) := by decide +kernel
theorem dX11_changes_51 : decode cX11_changes 51 = .ok (.iload_n 1, 1) := by decide +kernel
theorem dX11_changes_52 : decode cX11_changes 52 = .ok (.invokevirtual 334, 3) := by decide +kernel
theorem dX11_changes_55 : decode cX11_changes 55 = .ok (.aload_n 0, 1) := by decide +kernel
theorem dX11_changes_56 : decode cX11_changes 56 = .ok (.aload_n 0, 1) := by decide +kernel
theorem dX11_changes_57 : decode cX11_changes 57 = .ok (.getfield 279, 3) := by decide +kernel
theorem dX11_changes_60 : decode cX11_changes 60 = .ok (.invokevirtual 328, 3) := by decide +kernel
theorem dX11_changes_63 : decode cX11_changes 63 = .ok (.aload_n 0, 1) := by decide +kernel
theorem dX11_changes_64 : decode cX11_changes 64 = .ok (.iload_n 2, 1) := by decide +kernel
theorem dX11_changes_65 : decode cX11_changes 65 = .ok (.iload_n 1, 1) := by decide +kernel
theorem dX11_changes_66 : decode cX11_changes 66 = .ok (.iconst 0, 1) := by decide +kernel
theorem dX11_changes_67 : decode cX11_changes 67 = .ok (.invokevirtual 331, 3) := by decide +kernel
theorem dX11_changes_70 : decode cX11_changes 70 = .ok (.istore 4, 2) := by decide +kernel
theorem dX11_changes_72 : decode cX11_changes 72 = .ok (.iconst 1, 1) := by decide +kernel
theorem dX11_changes_73 : decode cX11_changes 73 = .ok (.ireturn, 1) := by decide +kernel
theorem dX11_moves_0 : decode cX11_moves 0 = .ok (.iconst 0, 1) := by decide +kernel
theorem dX11_moves_1 : decode cX11_moves 1 = .ok (.istore_n 2, 1) := by decide +kernel
theorem dX11_moves_2 : decode cX11_moves 2 = .ok (.iload_n 2, 1) := by decide +kernel
theorem dX11_moves_3 : decode cX11_moves 3 = .ok (.aload_n 0, 1) := by decide +kernel
theorem dX11_moves_4 : decode cX11_moves 4 = .ok (.getfield 191, 3) := by decide +kernel
theorem dX11_moves_7 : decode cX11_moves 7 = .ok (.if_icmp .ge 51, 3) := by decide +kernel
theorem dX11_moves_10 : decode cX11_moves 10 = .ok (.aload_n 0, 1) := by decide +kernel
theorem dX11_moves_11 : decode cX11_moves 11 = .ok (.getfield 44, 3) := by decide +kernel
theorem dX11_moves_14 : decode cX11_moves 14 = .ok (.bipush 40, 2) := by decide +kernel
theorem dX11_moves_16 : decode cX11_moves 16 = .ok (.iload_n 1, 1) := by decide +kernel
theorem dX11_moves_17 : decode cX11_moves 17 = .ok (.imul, 1) := by decide +kernel
theorem dX11_moves_18 : decode cX11_moves 18 = .ok (.iload_n 2, 1) := by decide +kernel
theorem dX11_moves_19 : decode cX11_moves 19 = .ok (.iadd, 1) := by decide +kernel
theorem dX11_moves_20 : decode cX11_moves 20 = .ok (.iaload, 1) := by decide +kernel
theorem dX11_moves_21 : decode cX11_moves 21 = .ok (.aload_n 0, 1) := by decide +kernel
theorem dX11_moves_22 : decode cX11_moves 22 = .ok (.getfield 86, 3) := by decide +kernel
theorem dX11_moves_25 : decode cX11_moves 25 = .ok (.iload_n 2, 1) := by decide +kernel
theorem dX11_moves_26 : decode cX11_moves 26 = .ok (.iaload, 1) := by decide +kernel
theorem dX11_moves_27 : decode cX11_moves 27 = .ok (.if_icmp .ne 23, 3) := by decide +kernel
theorem dX11_moves_30 : decode cX11_moves 30 = .ok (.aload_n 0, 1) := by decide +kernel
theorem dX11_moves_31 : decode cX11_moves 31 = .ok (.getfield 47, 3) := by decide +kernel
theorem dX11_moves_34 : decode cX11_moves 34 = .ok (.bipush 40, 2) := by decide +kernel
theorem dX11_moves_36 : decode cX11_moves 36 = .ok (.iload_n 1, 1) := by decide +kernel
theorem dX11_moves_37 : decode cX11_moves 37 = .ok (.imul, 1) := by decide +kernel
theorem dX11_moves_38 : decode cX11_moves 38 = .ok (.iload_n 2, 1) := by decide +kernel
theorem dX11_moves_39 : decode cX11_moves 39 = .ok (.iadd, 1) := by decide +kernel
theorem dX11_moves_40 : decode cX11_moves 40 = .ok (.iaload, 1) := by decide +kernel
theorem dX11_moves_41 : decode cX11_moves 41 = .ok (.aload_n 0, 1) := by decide +kernel
theorem dX11_moves_42 : decode cX11_moves 42 = .ok (.getfield 89, 3) := by decide +kernel
theorem dX11_moves_45 : decode cX11_moves 45 = .ok (.iload_n 2, 1) := by decide +kernel
theorem dX11_moves_46 : decode cX11_moves 46 = .ok (.iaload, 1) := by decide +kernel
theorem dX11_moves_47 : decode cX11_moves 47 = .ok (.if_icmp .eq 5, 3) := by decide +kernel
theorem dX11_moves_50 : decode cX11_moves 50 = .ok (.iconst 1, 1) := by decide +kernel
theorem dX11_moves_51 : decode cX11_moves 51 = .ok (.ireturn, 1) := by decide +kernel
theorem dX11_moves_52 : decode cX11_moves 52 = .ok (.iinc 2 1, 3) := by decide +kernel
theorem dX11_moves_55 : decode cX11_moves 55 = .ok (.goto (-53), 3) := by decide +kernel
theorem dX11_moves_58 : decode cX11_moves 58 = .ok (.iconst 0, 1) := by decide +kernel
theorem dX11_moves_59 : decode cX11_moves 59 = .ok (.ireturn, 1) := by decide +kernel
theorem dX11_smooth_0 : decode cX11_smooth 0 = .ok (.aload_n 0, 1) := by decide +kernel
theorem dX11_smooth_1 : decode cX11_smooth 1 = .ok (.iload_n 1, 1) := by decide +kernel
theorem dX11_smooth_2 : decode cX11_smooth 2 = .ok (.invokevirtual 312, 3) := by decide +kernel
theorem dX11_smooth_5 : decode cX11_smooth 5 = .ok (.istore_n 2, 1) := by decide +kernel
theorem dX11_smooth_6 : decode cX11_smooth 6 = .ok (.iload_n 2, 1) := by decide +kernel
theorem dX11_smooth_7 : decode cX11_smooth 7 = .ok (.ifCond .le 7, 3) := by decide +kernel
theorem dX11_smooth_10 : decode cX11_smooth 10 = .ok (.iload_n 2, 1) := by decide +kernel
theorem dX11_smooth_11 : decode cX11_smooth 11 = .ok (.goto 29, 3) := by decide +kernel
theorem dX11_smooth_14 : decode cX11_smooth 14 = .ok (.aload_n 0, 1) := by decide +kernel
theorem dX11_smooth_15 : decode cX11_smooth 15 = .ok (.iload_n 1, 1) := by decide +kernel
theorem dX11_smooth_16 : decode cX11_smooth 16 = .ok (.invokevirtual 315, 3) := by decide +kernel
theorem dX11_smooth_19 : decode cX11_smooth 19 = .ok (.ifCond .ne 7, 3) := by decide +kernel
theorem dX11_smooth_22 : decode cX11_smooth 22 = .ok (.iconst 3, 1) := by decide +kernel
theorem dX11_smooth_23 : decode cX11_smooth 23 = .ok (.goto 17, 3) := by decide +kernel
theorem dX11_smooth_26 : decode cX11_smooth 26 = .ok (.aload_n 0, 1) := by decide +kernel
theorem dX11_smooth_27 : decode cX11_smooth 27 = .ok (.getfield 25, 3) := by decide +kernel
theorem dX11_smooth_30 : decode cX11_smooth 30 = .ok (.iload_n 1, 1) := by decide +kernel
theorem dX11_smooth_31 : decode cX11_smooth 31 = .ok (.baload, 1) := by decide +kernel
theorem dX11_smooth_32 : decode cX11_smooth 32 = .ok (.ifCond .eq 7, 3) := by decide +kernel
theorem dX11_smooth_35 : decode cX11_smooth 35 = .ok (.iconst 5, 1) := by decide +kernel
theorem dX11_smooth_36 : decode cX11_smooth 36 = .ok (.goto 4, 3) := by decide +kernel
theorem dX11_smooth_39 : decode cX11_smooth 39 = .ok (.iconst 0, 1) := by decide +kernel
theorem dX11_smooth_40 : decode cX11_smooth 40 = .ok (.istore_n 2, 1) := by decide +kernel
theorem dX11_smooth_41 : decode cX11_smooth 41 = .ok (.iload_n 2, 1) := by decide +kernel
theorem dX11_smooth_42 : decode cX11_smooth 42 = .ok (.ifCond .le 9, 3) := by decide +kernel
theorem dX11_smooth_45 : decode cX11_smooth 45 = .ok (.aload_n 0, 1) := by decide +kernel
theorem dX11_smooth_46 : decode cX11_smooth 46 = .ok (.iload_n 2, 1) := by decide +kernel
theorem dX11_smooth_47 : decode cX11_smooth 47 = .ok (.invokevirtual 276, 3) := by decide +kernel
theorem dX11_smooth_50 : decode cX11_smooth 50 = .ok (.ireturn, 1) := by decide +kernel
theorem dX11_smooth_51 : decode cX11_smooth 51 = .ok (.aload_n 0, 1) := by decide +kernel
theorem dX11_smooth_52 : decode cX11_smooth 52 = .ok (.iload_n 1, 1) := by decide +kernel
theorem dX11_smooth_53 : decode cX11_smooth 53 = .ok (.invokevirtual 285, 3) := by decide +kernel
theorem dX11_smooth_56 : decode cX11_smooth 56 = .ok (.iconst 0, 1) := by decide +kernel
theorem dX11_smooth_57 : decode cX11_smooth 57 = .ok (.istore_n 3, 1) := by decide +kernel
theorem dX11_smooth_58 : decode cX11_smooth 58 = .ok (.iload_n 3, 1) := by decide +kernel
theorem dX11_smooth_59 : decode cX11_smooth 59 = .ok (.aload_n 0, 1) := by decide +kernel
theorem dX11_smooth_60 : decode cX11_smooth 60 = .ok (.getfield 191, 3) := by decide +kernel
theorem dX11_smooth_63 : decode cX11_smooth 63 = .ok (.if_icmp .ge 145, 3) := by decide +kernel
theorem dX11_smooth_66 : decode cX11_smooth 66 = .ok (.aload_n 0, 1) := by decide +kernel
theorem dX11_smooth_67 : decode cX11_smooth 67 = .ok (.iload_n 1, 1) := by decide +kernel
theorem dX11_smooth_68 : decode cX11_smooth 68 = .ok (.invokevirtual 161, 3) := by decide +kernel
theorem dX11_smooth_71 : decode cX11_smooth 71 = .ok (.ifCond .ne 20, 3) := by decide +kernel
theorem dX11_smooth_74 : decode cX11_smooth 74 = .ok (.iload_n 3, 1) := by decide +kernel
theorem dX11_smooth_75 : decode cX11_smooth 75 = .ok (.ifCond .eq 127, 3) := by decide +kernel
theorem dX11_smooth_78 : decode cX11_smooth 78 = .ok (.iload_n 3, 1) := by decide +kernel
theorem dX11_smooth_79 : decode cX11_smooth 79 = .ok (.aload_n 0, 1) := by decide +kernel
theorem dX11_smooth_80 : decode cX11_smooth 80 = .ok (.getfield 191, 3) := by decide +kernel
theorem dX11_smooth_83 : decode cX11_smooth 83 = .ok (.iconst 1, 1) := by decide +kernel
theorem dX11_smooth_84 : decode cX11_smooth 84 = .ok (.isub, 1) := by decide +kernel
theorem dX11_smooth_85 : decode cX11_smooth 85 = .ok (.if_icmp .ne 6, 3) := by decide +kernel
theorem dX11_smooth_88 : decode cX11_smooth 88 = .ok (.goto 114, 3) := by decide +kernel
theorem dX11_smooth_91 : decode cX11_smooth 91 = .ok (.iload_n 3, 1) := by decide +kernel
theorem dX11_smooth_92 : decode cX11_smooth 92 = .ok (.ifCond .ne 12, 3) := by decide +kernel
theorem dX11_smooth_95 : decode cX11_smooth 95 = .ok (.aload_n 0, 1) := by decide +kernel
theorem dX11_smooth_96 : decode cX11_smooth 96 = .ok (.getfield 191, 3) := by decide +kernel
theorem dX11_smooth_99 : decode cX11_smooth 99 = .ok (.iconst 1, 1) := by decide +kernel
theorem dX11_smooth_100 : decode cX11_smooth 100 = .ok (.isub, 1) := by decide +kernel
theorem dX11_smooth_101 : decode cX11_smooth 101 = .ok (.goto 6, 3) := by decide +kernel
theorem dX11_smooth_104 : decode cX11_smooth 104 = .ok (.iload_n 3, 1) := by decide +kernel
theorem dX11_smooth_105 : decode cX11_smooth 105 = .ok (.iconst 1, 1) := by decide +kernel
theorem dX11_smooth_106 : decode cX11_smooth 106 = .ok (.isub, 1) := by decide +kernel
theorem dX11_smooth_107 : decode cX11_smooth 107 = .ok (.istore 4, 2) := by decide +kernel
theorem dX11_smooth_109 : decode cX11_smooth 109 = .ok (.iload_n 3, 1) := by decide +kernel
theorem dX11_smooth_110 : decode cX11_smooth 110 = .ok (.iconst 1, 1) := by decide +kernel
theorem dX11_smooth_111 : decode cX11_smooth 111 = .ok (.iadd, 1) := by decide +kernel
theorem dX11_smooth_112 : decode cX11_smooth 112 = .ok (.aload_n 0, 1) := by decide +kernel
theorem dX11_smooth_113 : decode cX11_smooth 113 = .ok (.getfield 191, 3) := by decide +kernel
theorem dX11_smooth_116 : decode cX11_smooth 116 = .ok (.if_icmp .ne 7, 3) := by decide +kernel
theorem dX11_smooth_119 : decode cX11_smooth 119 = .ok (.iconst 0, 1) := by decide +kernel
theorem dX11_smooth_120 : decode cX11_smooth 120 = .ok (.goto 6, 3) := by decide +kernel
theorem dX11_smooth_123 : decode cX11_smooth 123 = .ok (.iload_n 3, 1) := by decide +kernel
theorem dX11_smooth_124 : decode cX11_smooth 124 = .ok (.iconst 1, 1) := by decide +kernel
theorem dX11_smooth_125 : decode cX11_smooth 125 = .ok (.iadd, 1) := by decide +kernel
theorem dX11_smooth_126 : decode cX11_smooth 126 = .ok (.istore 5, 2) := by decide +kernel
theorem dX11_smooth_128 : decode cX11_smooth 128 = .ok (.aload_n 0, 1) := by decide +kernel
theorem dX11_smooth_129 : decode cX11_smooth 129 = .ok (.getfield 44, 3) := by decide +kernel
theorem dX11_smooth_132 : decode cX11_smooth 132 = .ok (.bipush 40, 2) := by decide +kernel
theorem dX11_smooth_134 : decode cX11_smooth 134 = .ok (.iload_n 1, 1) := by decide +kernel
theorem dX11_smooth_135 : decode cX11_smooth 135 = .ok (.imul, 1) := by decide +kernel
theorem dX11_smooth_136 : decode cX11_smooth 136 = .ok (.iload_n 3, 1) := by decide +kernel
theorem dX11_smooth_137 : decode cX11_smooth 137 = .ok (.iadd, 1) := by decide +kernel
theorem dX11_smooth_138 : decode cX11_smooth 138 = .ok (.aload_n 0, 1) := by decide +kernel
theorem dX11_smooth_139 : decode cX11_smooth 139 = .ok (.getfield 86, 3) := by decide +kernel
theorem dX11_smooth_142 : decode cX11_smooth 142 = .ok (.iload 4, 2) := by decide +kernel
theorem dX11_smooth_144 : decode cX11_smooth 144 = .ok (.iaload, 1) := by decide +kernel
theorem dX11_smooth_145 : decode cX11_smooth 145 = .ok (.iconst 2, 1) := by decide +kernel
theorem dX11_smooth_146 : decode cX11_smooth 146 = .ok (.aload_n 0, 1) := by decide +kernel
theorem dX11_smooth_147 : decode cX11_smooth 147 = .ok (.getfield 86, 3) := by decide +kernel
theorem dX11_smooth_150 : decode cX11_smooth 150 = .ok (.iload_n 3, 1) := by decide +kernel
theorem dX11_smooth_151 : decode cX11_smooth 151 = .ok (.iaload, 1) := by decide +kernel
theorem dX11_smooth_152 : decode cX11_smooth 152 = .ok (.imul, 1) := by decide +kernel
theorem dX11_smooth_153 : decode cX11_smooth 153 = .ok (.iadd, 1) := by decide +kernel
theorem dX11_smooth_154 : decode cX11_smooth 154 = .ok (.aload_n 0, 1) := by decide +kernel
theorem dX11_smooth_155 : decode cX11_smooth 155 = .ok (.getfield 86, 3) := by decide +kernel
theorem dX11_smooth_158 : decode cX11_smooth 158 = .ok (.iload 5, 2) := by decide +kernel
theorem dX11_smooth_160 : decode cX11_smooth 160 = .ok (.iaload, 1) := by decide +kernel
theorem dX11_smooth_161 : decode cX11_smooth 161 = .ok (.iadd, 1) := by decide +kernel
theorem dX11_smooth_162 : decode cX11_smooth 162 = .ok (.iconst 4, 1) := by decide +kernel
theorem dX11_smooth_163 : decode cX11_smooth 163 = .ok (.idiv, 1) := by decide +kernel
theorem dX11_smooth_164 : decode cX11_smooth 164 = .ok (.iastore, 1) := by decide +kernel
theorem dX11_smooth_165 : decode cX11_smooth 165 = .ok (.aload_n 0, 1) := by decide +kernel
theorem dX11_smooth_166 : decode cX11_smooth 166 = .ok (.getfield 47, 3) := by decide +kernel
theorem dX11_smooth_169 : decode cX11_smooth 169 = .ok (.bipush 40, 2) := by decide +kernel
theorem dX11_smooth_171 : decode cX11_smooth 171 = .ok (.iload_n 1, 1) := by decide +kernel
theorem dX11_smooth_172 : decode cX11_smooth 172 = .ok (.imul, 1) := by decide +kernel
theorem dX11_smooth_173 : decode cX11_smooth 173 = .ok (.iload_n 3, 1) := by decide +kernel
theorem dX11_smooth_174 : decode cX11_smooth 174 = .ok (.iadd, 1) := by decide +kernel
theorem dX11_smooth_175 : decode cX11_smooth 175 = .ok (.aload_n 0, 1) := by decide +kernel
theorem dX11_smooth_176 : decode cX11_smooth 176 = .ok (.getfield 89, 3) := by decide +kernel
theorem dX11_smooth_179 : decode cX11_smooth 179 = .ok (.iload 4, 2) := by decide +kernel
theorem dX11_smooth_181 : decode cX11_smooth 181 = .ok (.iaload, 1) := by decide +kernel
theorem dX11_smooth_182 : decode cX11_smooth 182 = .ok (.iconst 2, 1) := by decide +kernel
theorem dX11_smooth_183 : decode cX11_smooth 183 = .ok (.aload_n 0, 1) := by decide +kernel
theorem dX11_smooth_184 : decode cX11_smooth 184 = .ok (.getfield 89, 3) := by decide +kernel
theorem dX11_smooth_187 : decode cX11_smooth 187 = .ok (.iload_n 3, 1) := by decide +kernel
theorem dX11_smooth_188 : decode cX11_smooth 188 = .ok (.iaload, 1) := by decide +kernel
theorem dX11_smooth_189 : decode cX11_smooth 189 = .ok (.imul, 1) := by decide +kernel
theorem dX11_smooth_190 : decode cX11_smooth 190 = .ok (.iadd, 1) := by decide +kernel
theorem dX11_smooth_191 : decode cX11_smooth 191 = .ok (.aload_n 0, 1) := by decide +kernel
theorem dX11_smooth_192 : decode cX11_smooth 192 = .ok (.getfield 89, 3) := by decide +kernel
theorem dX11_smooth_195 : decode cX11_smooth 195 = .ok (.iload 5, 2) := by decide +kernel
theorem dX11_smooth_197 : decode cX11_smooth 197 = .ok (.iaload, 1) := by decide +kernel
theorem dX11_smooth_198 : decode cX11_smooth 198 = .ok (.iadd, 1) := by decide +kernel
theorem dX11_smooth_199 : decode cX11_smooth 199 = .ok (.iconst 4, 1) := by decide +kernel
theorem dX11_smooth_200 : decode cX11_smooth 200 = .ok (.idiv, 1) := by decide +kernel
theorem dX11_smooth_201 : decode cX11_smooth 201 = .ok (.iastore, 1) := by decide +kernel
theorem dX11_smooth_202 : decode cX11_smooth 202 = .ok (.iinc 3 1, 3) := by decide +kernel
theorem dX11_smooth_205 : decode cX11_smooth 205 = .ok (.goto (-147), 3) := by decide +kernel
theorem dX11_smooth_208 : decode cX11_smooth 208 = .ok (.aload_n 0, 1) := by decide +kernel
theorem dX11_smooth_209 : decode cX11_smooth 209 = .ok (.iload_n 1, 1) := by decide +kernel
theorem dX11_smooth_210 : decode cX11_smooth 210 = .ok (.invokevirtual 337, 3) := by decide +kernel
theorem dX11_smooth_213 : decode cX11_smooth 213 = .ok (.ifCond .ne 10, 3) := by decide +kernel
theorem dX11_smooth_216 : decode cX11_smooth 216 = .ok (.aload_n 0, 1) := by decide +kernel
theorem dX11_smooth_217 : decode cX11_smooth 217 = .ok (.bipush 8, 2) := by decide +kernel
theorem dX11_smooth_219 : decode cX11_smooth 219 = .ok (.invokevirtual 276, 3) := by decide +kernel
theorem dX11_smooth_222 : decode cX11_smooth 222 = .ok (.ireturn, 1) := by decide +kernel
theorem dX11_smooth_223 : decode cX11_smooth 223 = .ok (.aload_n 0, 1) := by decide +kernel
theorem dX11_smooth_224 : decode cX11_smooth 224 = .ok (.iload_n 1, 1) := by decide +kernel
theorem dX11_smooth_225 : decode cX11_smooth 225 = .ok (.iconst 2, 1) := by decide +kernel
theorem dX11_smooth_226 : decode cX11_smooth 226 = .ok (.invokevirtual 340, 3) := by decide +kernel
theorem dX11_smooth_229 : decode cX11_smooth 229 = .ok (.ireturn, 1) := by decide +kernel
theorem dX11_wayOf_0 : decode cX11_wayOf 0 = .ok (.iload_n 3, 1) := by decide +kernel
theorem dX11_wayOf_1 : decode cX11_wayOf 1 = .ok (.iload_n 2, 1) := by decide +kernel
theorem dX11_wayOf_2 : decode cX11_wayOf 2 = .ok (.isub, 1) := by decide +kernel
theorem dX11_wayOf_3 : decode cX11_wayOf 3 = .ok (.invokestatic 179, 3) := by decide +kernel
theorem dX11_wayOf_6 : decode cX11_wayOf 6 = .ok (.istore 4, 2) := by decide +kernel
theorem dX11_wayOf_8 : decode cX11_wayOf 8 = .ok (.aload_n 0, 1) := by decide +kernel
theorem dX11_wayOf_9 : decode cX11_wayOf 9 = .ok (.iload_n 1, 1) := by decide +kernel
theorem dX11_wayOf_10 : decode cX11_wayOf 10 = .ok (.invokevirtual 161, 3) := by decide +kernel
theorem dX11_wayOf_13 : decode cX11_wayOf 13 = .ok (.ifCond .eq 18, 3) := by decide +kernel
theorem dX11_wayOf_16 : decode cX11_wayOf 16 = .ok (.iload 4, 2) := by decide +kernel
theorem dX11_wayOf_18 : decode cX11_wayOf 18 = .ok (.aload_n 0, 1) := by decide +kernel
theorem dX11_wayOf_19 : decode cX11_wayOf 19 = .ok (.getfield 191, 3) := by decide +kernel
theorem dX11_wayOf_22 : decode cX11_wayOf 22 = .ok (.iload 4, 2) := by decide +kernel
theorem dX11_wayOf_24 : decode cX11_wayOf 24 = .ok (.isub, 1) := by decide +kernel
theorem dX11_wayOf_25 : decode cX11_wayOf 25 = .ok (.invokestatic 144, 3) := by decide +kernel
theorem dX11_wayOf_28 : decode cX11_wayOf 28 = .ok (.goto 5, 3) := by decide +kernel
theorem dX11_wayOf_31 : decode cX11_wayOf 31 = .ok (.iload 4, 2) := by decide +kernel
theorem dX11_wayOf_33 : decode cX11_wayOf 33 = .ok (.ireturn, 1) := by decide +kernel
theorem dX11_shift_0 : decode cX11_shift 0 = .ok (.aload_n 0, 1) := by decide +kernel
theorem dX11_shift_1 : decode cX11_shift 1 = .ok (.iload_n 1, 1) := by decide +kernel
theorem dX11_shift_2 : decode cX11_shift 2 = .ok (.invokevirtual 133, 3) := by decide +kernel
theorem dX11_shift_5 : decode cX11_shift 5 = .ok (.ifCond .eq 30, 3) := by decide +kernel
theorem dX11_shift_8 : decode cX11_shift 8 = .ok (.aload_n 0, 1) := by decide +kernel
theorem dX11_shift_9 : decode cX11_shift 9 = .ok (.getfield 25, 3) := by decide +kernel
theorem dX11_shift_12 : decode cX11_shift 12 = .ok (.iload_n 1, 1) := by decide +kernel
theorem dX11_shift_13 : decode cX11_shift 13 = .ok (.baload, 1) := by decide +kernel
theorem dX11_shift_14 : decode cX11_shift 14 = .ok (.ifCond .ne 21, 3) := by decide +kernel
theorem dX11_shift_17 : decode cX11_shift 17 = .ok (.iload_n 2, 1) := by decide +kernel
theorem dX11_shift_18 : decode cX11_shift 18 = .ok (.ifCond .lt 13, 3) := by decide +kernel
theorem dX11_shift_21 : decode cX11_shift 21 = .ok (.iload_n 2, 1) := by decide +kernel
theorem dX11_shift_22 : decode cX11_shift 22 = .ok (.aload_n 0, 1) := by decide +kernel
theorem dX11_shift_23 : decode cX11_shift 23 = .ok (.getfield 41, 3) := by decide +kernel
theorem dX11_shift_26 : decode cX11_shift 26 = .ok (.iload_n 1, 1) := by decide +kernel
theorem dX11_shift_27 : decode cX11_shift 27 = .ok (.iaload, 1) := by decide +kernel
theorem dX11_shift_28 : decode cX11_shift 28 = .ok (.if_icmp .lt 7, 3) := by decide +kernel
theorem dX11_shift_31 : decode cX11_shift 31 = .ok (.iconst 1, 1) := by decide +kernel
theorem dX11_shift_32 : decode cX11_shift 32 = .ok (.goto 4, 3) := by decide +kernel
theorem dX11_shift_35 : decode cX11_shift 35 = .ok (.iconst 0, 1) := by decide +kernel
theorem dX11_shift_36 : decode cX11_shift 36 = .ok (.istore 6, 2) := by decide +kernel
theorem dX11_shift_38 : decode cX11_shift 38 = .ok (.aload_n 0, 1) := by decide +kernel
theorem dX11_shift_39 : decode cX11_shift 39 = .ok (.iload_n 1, 1) := by decide +kernel
theorem dX11_shift_40 : decode cX11_shift 40 = .ok (.invokevirtual 133, 3) := by decide +kernel
theorem dX11_shift_43 : decode cX11_shift 43 = .ok (.ifCond .eq 8, 3) := by decide +kernel
theorem dX11_shift_46 : decode cX11_shift 46 = .ok (.iload 6, 2) := by decide +kernel
theorem dX11_shift_48 : decode cX11_shift 48 = .ok (.ifCond .eq 7, 3) := by decide +kernel
theorem dX11_shift_51 : decode cX11_shift 51 = .ok (.iconst 1, 1) := by decide +kernel
theorem dX11_shift_52 : decode cX11_shift 52 = .ok (.goto 18, 3) := by decide +kernel
theorem dX11_shift_55 : decode cX11_shift 55 = .ok (.aload_n 0, 1) := by decide +kernel
theorem dX11_shift_56 : decode cX11_shift 56 = .ok (.getfield 22, 3) := by decide +kernel
theorem dX11_shift_59 : decode cX11_shift 59 = .ok (.iload_n 1, 1) := by decide +kernel
theorem dX11_shift_60 : decode cX11_shift 60 = .ok (.iaload, 1) := by decide +kernel
theorem dX11_shift_61 : decode cX11_shift 61 = .ok (.iconst 1, 1) := by decide +kernel
theorem dX11_shift_62 : decode cX11_shift 62 = .ok (.if_icmp .eq 7, 3) := by decide +kernel
theorem dX11_shift_65 : decode cX11_shift 65 = .ok (.iconst 2, 1) := by decide +kernel
theorem dX11_shift_66 : decode cX11_shift 66 = .ok (.goto 4, 3) := by decide +kernel
theorem dX11_shift_69 : decode cX11_shift 69 = .ok (.iconst 0, 1) := by decide +kernel
theorem dX11_shift_70 : decode cX11_shift 70 = .ok (.istore 7, 2) := by decide +kernel
theorem dX11_shift_72 : decode cX11_shift 72 = .ok (.iload_n 3, 1) := by decide +kernel
theorem dX11_shift_73 : decode cX11_shift 73 = .ok (.sipush (-200), 3) := by decide +kernel
theorem dX11_shift_76 : decode cX11_shift 76 = .ok (.if_icmp .lt 38, 3) := by decide +kernel
theorem dX11_shift_79 : decode cX11_shift 79 = .ok (.iload_n 3, 1) := by decide +kernel
theorem dX11_shift_80 : decode cX11_shift 80 = .ok (.sipush 200, 3) := by decide +kernel
theorem dX11_shift_83 : decode cX11_shift 83 = .ok (.if_icmp .gt 31, 3) := by decide +kernel
theorem dX11_shift_86 : decode cX11_shift 86 = .ok (.iload 4, 2) := by decide +kernel
theorem dX11_shift_88 : decode cX11_shift 88 = .ok (.sipush (-200), 3) := by decide +kernel
theorem dX11_shift_91 : decode cX11_shift 91 = .ok (.if_icmp .lt 23, 3) := by decide +kernel
theorem dX11_shift_94 : decode cX11_shift 94 = .ok (.iload 4, 2) := by decide +kernel
theorem dX11_shift_96 : decode cX11_shift 96 = .ok (.sipush 200, 3) := by decide +kernel
theorem dX11_shift_99 : decode cX11_shift 99 = .ok (.if_icmp .gt 15, 3) := by decide +kernel
theorem dX11_shift_102 : decode cX11_shift 102 = .ok (.iload 5, 2) := by decide +kernel
theorem dX11_shift_104 : decode cX11_shift 104 = .ok (.ifCond .lt 10, 3) := by decide +kernel
theorem dX11_shift_107 : decode cX11_shift 107 = .ok (.iload 5, 2) := by decide +kernel
theorem dX11_shift_109 : decode cX11_shift 109 = .ok (.bipush 20, 2) := by decide +kernel
theorem dX11_shift_111 : decode cX11_shift 111 = .ok (.if_icmp .le 7, 3) := by decide +kernel
theorem dX11_shift_114 : decode cX11_shift 114 = .ok (.iconst 1, 1) := by decide +kernel
theorem dX11_shift_115 : decode cX11_shift 115 = .ok (.goto 4, 3) := by decide +kernel
theorem dX11_shift_118 : decode cX11_shift 118 = .ok (.iconst 0, 1) := by decide +kernel
theorem dX11_shift_119 : decode cX11_shift 119 = .ok (.istore 8, 2) := by decide +kernel
theorem dX11_shift_121 : decode cX11_shift 121 = .ok (.iload 7, 2) := by decide +kernel
theorem dX11_shift_123 : decode cX11_shift 123 = .ok (.ifCond .le 8, 3) := by decide +kernel
theorem dX11_shift_126 : decode cX11_shift 126 = .ok (.iload 7, 2) := by decide +kernel
theorem dX11_shift_128 : decode cX11_shift 128 = .ok (.goto 26, 3) := by decide +kernel
theorem dX11_shift_131 : decode cX11_shift 131 = .ok (.iload 8, 2) := by decide +kernel
theorem dX11_shift_133 : decode cX11_shift 133 = .ok (.ifCond .eq 7, 3) := by decide +kernel
theorem dX11_shift_136 : decode cX11_shift 136 = .ok (.iconst 4, 1) := by decide +kernel
theorem dX11_shift_137 : decode cX11_shift 137 = .ok (.goto 17, 3) := by decide +kernel
theorem dX11_shift_140 : decode cX11_shift 140 = .ok (.aload_n 0, 1) := by decide +kernel
theorem dX11_shift_141 : decode cX11_shift 141 = .ok (.getfield 25, 3) := by decide +kernel
theorem dX11_shift_144 : decode cX11_shift 144 = .ok (.iload_n 1, 1) := by decide +kernel
theorem dX11_shift_145 : decode cX11_shift 145 = .ok (.baload, 1) := by decide +kernel
theorem dX11_shift_146 : decode cX11_shift 146 = .ok (.ifCond .eq 7, 3) := by decide +kernel
theorem dX11_shift_149 : decode cX11_shift 149 = .ok (.iconst 5, 1) := by decide +kernel
theorem dX11_shift_150 : decode cX11_shift 150 = .ok (.goto 4, 3) := by decide +kernel
theorem dX11_shift_153 : decode cX11_shift 153 = .ok (.iconst 0, 1) := by decide +kernel
theorem dX11_shift_154 : decode cX11_shift 154 = .ok (.istore 7, 2) := by decide +kernel
theorem dX11_shift_156 : decode cX11_shift 156 = .ok (.iload 7, 2) := by decide +kernel
theorem dX11_shift_158 : decode cX11_shift 158 = .ok (.ifCond .le 10, 3) := by decide +kernel
theorem dX11_shift_161 : decode cX11_shift 161 = .ok (.aload_n 0, 1) := by decide +kernel
theorem dX11_shift_162 : decode cX11_shift 162 = .ok (.iload 7, 2) := by decide +kernel
theorem dX11_shift_164 : decode cX11_shift 164 = .ok (.invokevirtual 276, 3) := by decide +kernel
theorem dX11_shift_167 : decode cX11_shift 167 = .ok (.ireturn, 1) := by decide +kernel
theorem dX11_shift_168 : decode cX11_shift 168 = .ok (.aload_n 0, 1) := by decide +kernel
theorem dX11_shift_169 : decode cX11_shift 169 = .ok (.iload_n 1, 1) := by decide +kernel
theorem dX11_shift_170 : decode cX11_shift 170 = .ok (.invokevirtual 285, 3) := by decide +kernel
theorem dX11_shift_173 : decode cX11_shift 173 = .ok (.aload_n 0, 1) := by decide +kernel
theorem dX11_shift_174 : decode cX11_shift 174 = .ok (.getfield 7, 3) := by decide +kernel
theorem dX11_shift_177 : decode cX11_shift 177 = .ok (.iload_n 1, 1) := by decide +kernel
theorem dX11_shift_178 : decode cX11_shift 178 = .ok (.iaload, 1) := by decide +kernel
theorem dX11_shift_179 : decode cX11_shift 179 = .ok (.ifCond .eq 14, 3) := by decide +kernel
theorem dX11_shift_182 : decode cX11_shift 182 = .ok (.aload_n 0, 1) := by decide +kernel
theorem dX11_shift_183 : decode cX11_shift 183 = .ok (.getfield 7, 3) := by decide +kernel
theorem dX11_shift_186 : decode cX11_shift 186 = .ok (.iload_n 1, 1) := by decide +kernel
theorem dX11_shift_187 : decode cX11_shift 187 = .ok (.iaload, 1) := by decide +kernel
theorem dX11_shift_188 : decode cX11_shift 188 = .ok (.bipush 6, 2) := by decide +kernel
theorem dX11_shift_190 : decode cX11_shift 190 = .ok (.if_icmp .ne 7, 3) := by decide +kernel
theorem dX11_shift_193 : decode cX11_shift 193 = .ok (.iconst 1, 1) := by decide +kernel
theorem dX11_shift_194 : decode cX11_shift 194 = .ok (.goto 4, 3) := by decide +kernel
theorem dX11_shift_197 : decode cX11_shift 197 = .ok (.iconst 0, 1) := by decide +kernel
theorem dX11_shift_198 : decode cX11_shift 198 = .ok (.istore 9, 2) := by decide +kernel
theorem dX11_shift_200 : decode cX11_shift 200 = .ok (.iconst 0, 1) := by decide +kernel
theorem dX11_shift_201 : decode cX11_shift 201 = .ok (.istore 10, 2) := by decide +kernel
theorem dX11_shift_203 : decode cX11_shift 203 = .ok (.iload 10, 2) := by decide +kernel
theorem dX11_shift_205 : decode cX11_shift 205 = .ok (.aload_n 0, 1) := by decide +kernel
theorem dX11_shift_206 : decode cX11_shift 206 = .ok (.getfield 191, 3) := by decide +kernel
theorem dX11_shift_209 : decode cX11_shift 209 = .ok (.if_icmp .ge 158, 3) := by decide +kernel
theorem dX11_shift_212 : decode cX11_shift 212 = .ok (.aload_n 0, 1) := by decide +kernel
theorem dX11_shift_213 : decode cX11_shift 213 = .ok (.iload_n 1, 1) := by decide +kernel
theorem dX11_shift_214 : decode cX11_shift 214 = .ok (.iload_n 2, 1) := by decide +kernel
theorem dX11_shift_215 : decode cX11_shift 215 = .ok (.iload 10, 2) := by decide +kernel
theorem dX11_shift_217 : decode cX11_shift 217 = .ok (.invokevirtual 343, 3) := by decide +kernel
theorem dX11_shift_220 : decode cX11_shift 220 = .ok (.istore 11, 2) := by decide +kernel
theorem dX11_shift_222 : decode cX11_shift 222 = .ok (.iload 9, 2) := by decide +kernel
theorem dX11_shift_224 : decode cX11_shift 224 = .ok (.ifCond .ne 38, 3) := by decide +kernel
theorem dX11_shift_227 : decode cX11_shift 227 = .ok (.iload 11, 2) := by decide +kernel
theorem dX11_shift_229 : decode cX11_shift 229 = .ok (.iload 5, 2) := by decide +kernel
theorem dX11_shift_231 : decode cX11_shift 231 = .ok (.if_icmp .gt 27, 3) := by decide +kernel
theorem dX11_shift_234 : decode cX11_shift 234 = .ok (.aload_n 0, 1) := by decide +kernel
theorem dX11_shift_235 : decode cX11_shift 235 = .ok (.iload_n 1, 1) := by decide +kernel
theorem dX11_shift_236 : decode cX11_shift 236 = .ok (.invokevirtual 161, 3) := by decide +kernel
theorem dX11_shift_239 : decode cX11_shift 239 = .ok (.ifCond .ne 23, 3) := by decide +kernel
theorem dX11_shift_242 : decode cX11_shift 242 = .ok (.iload 10, 2) := by decide +kernel
theorem dX11_shift_244 : decode cX11_shift 244 = .ok (.ifCond .eq 14, 3) := by decide +kernel
theorem dX11_shift_247 : decode cX11_shift 247 = .ok (.iload 10, 2) := by decide +kernel
theorem dX11_shift_249 : decode cX11_shift 249 = .ok (.aload_n 0, 1) := by decide +kernel
theorem dX11_shift_250 : decode cX11_shift 250 = .ok (.getfield 191, 3) := by decide +kernel
theorem dX11_shift_253 : decode cX11_shift 253 = .ok (.iconst 1, 1) := by decide +kernel
theorem dX11_shift_254 : decode cX11_shift 254 = .ok (.isub, 1) := by decide +kernel
theorem dX11_shift_255 : decode cX11_shift 255 = .ok (.if_icmp .ne 7, 3) := by decide +kernel
theorem dX11_shift_258 : decode cX11_shift 258 = .ok (.iconst 1, 1) := by decide +kernel
theorem dX11_shift_259 : decode cX11_shift 259 = .ok (.goto 4, 3) := by decide +kernel
theorem dX11_shift_262 : decode cX11_shift 262 = .ok (.iconst 0, 1) := by decide +kernel
theorem dX11_shift_263 : decode cX11_shift 263 = .ok (.istore 12, 2) := by decide +kernel
theorem dX11_shift_265 : decode cX11_shift 265 = .ok (.iload 12, 2) := by decide +kernel
theorem dX11_shift_267 : decode cX11_shift 267 = .ok (.ifCond .eq 6, 3) := by decide +kernel
theorem dX11_shift_270 : decode cX11_shift 270 = .ok (.goto 91, 3) := by decide +kernel
theorem dX11_shift_273 : decode cX11_shift 273 = .ok (.aload_n 0, 1) := by decide +kernel
theorem dX11_shift_274 : decode cX11_shift 274 = .ok (.getfield 44, 3) := by decide +kernel
theorem dX11_shift_277 : decode cX11_shift 277 = .ok (.bipush 40, 2) := by decide +kernel
theorem dX11_shift_279 : decode cX11_shift 279 = .ok (.iload_n 1, 1) := by decide +kernel
theorem dX11_shift_280 : decode cX11_shift 280 = .ok (.imul, 1) := by decide +kernel
theorem dX11_shift_281 : decode cX11_shift 281 = .ok (.iload 10, 2) := by decide +kernel
theorem dX11_shift_283 : decode cX11_shift 283 = .ok (.iadd, 1) := by decide +kernel
theorem dX11_shift_284 : decode cX11_shift 284 = .ok (.aload_n 0, 1) := by decide +kernel
theorem dX11_shift_285 : decode cX11_shift 285 = .ok (.getfield 86, 3) := by decide +kernel
theorem dX11_shift_288 : decode cX11_shift 288 = .ok (.iload 10, 2) := by decide +kernel
theorem dX11_shift_290 : decode cX11_shift 290 = .ok (.iaload, 1) := by decide +kernel
theorem dX11_shift_291 : decode cX11_shift 291 = .ok (.iload 9, 2) := by decide +kernel
theorem dX11_shift_293 : decode cX11_shift 293 = .ok (.ifCond .eq 7, 3) := by decide +kernel
theorem dX11_shift_296 : decode cX11_shift 296 = .ok (.iload_n 3, 1) := by decide +kernel
theorem dX11_shift_297 : decode cX11_shift 297 = .ok (.goto 17, 3) := by decide +kernel
theorem dX11_shift_300 : decode cX11_shift 300 = .ok (.iload_n 3, 1) := by decide +kernel
theorem dX11_shift_301 : decode cX11_shift 301 = .ok (.iload 5, 2) := by decide +kernel
theorem dX11_shift_303 : decode cX11_shift 303 = .ok (.iconst 1, 1) := by decide +kernel
theorem dX11_shift_304 : decode cX11_shift 304 = .ok (.iadd, 1) := by decide +kernel
theorem dX11_shift_305 : decode cX11_shift 305 = .ok (.iload 11, 2) := by decide +kernel
theorem dX11_shift_307 : decode cX11_shift 307 = .ok (.isub, 1) := by decide +kernel
theorem dX11_shift_308 : decode cX11_shift 308 = .ok (.imul, 1) := by decide +kernel
theorem dX11_shift_309 : decode cX11_shift 309 = .ok (.iload 5, 2) := by decide +kernel
theorem dX11_shift_311 : decode cX11_shift 311 = .ok (.iconst 1, 1) := by decide +kernel
theorem dX11_shift_312 : decode cX11_shift 312 = .ok (.iadd, 1) := by decide +kernel
theorem dX11_shift_313 : decode cX11_shift 313 = .ok (.idiv, 1) := by decide +kernel
theorem dX11_shift_314 : decode cX11_shift 314 = .ok (.iadd, 1) := by decide +kernel
theorem dX11_shift_315 : decode cX11_shift 315 = .ok (.iastore, 1) := by decide +kernel
theorem dX11_shift_316 : decode cX11_shift 316 = .ok (.aload_n 0, 1) := by decide +kernel
theorem dX11_shift_317 : decode cX11_shift 317 = .ok (.getfield 47, 3) := by decide +kernel
theorem dX11_shift_320 : decode cX11_shift 320 = .ok (.bipush 40, 2) := by decide +kernel
theorem dX11_shift_322 : decode cX11_shift 322 = .ok (.iload_n 1, 1) := by decide +kernel
theorem dX11_shift_323 : decode cX11_shift 323 = .ok (.imul, 1) := by decide +kernel
theorem dX11_shift_324 : decode cX11_shift 324 = .ok (.iload 10, 2) := by decide +kernel
theorem dX11_shift_326 : decode cX11_shift 326 = .ok (.iadd, 1) := by decide +kernel
theorem dX11_shift_327 : decode cX11_shift 327 = .ok (.aload_n 0, 1) := by decide +kernel
theorem dX11_shift_328 : decode cX11_shift 328 = .ok (.getfield 89, 3) := by decide +kernel
theorem dX11_shift_331 : decode cX11_shift 331 = .ok (.iload 10, 2) := by decide +kernel
theorem dX11_shift_333 : decode cX11_shift 333 = .ok (.iaload, 1) := by decide +kernel
theorem dX11_shift_334 : decode cX11_shift 334 = .ok (.iload 9, 2) := by decide +kernel
theorem dX11_shift_336 : decode cX11_shift 336 = .ok (.ifCond .eq 8, 3) := by decide +kernel
theorem dX11_shift_339 : decode cX11_shift 339 = .ok (.iload 4, 2) := by decide +kernel
theorem dX11_shift_341 : decode cX11_shift 341 = .ok (.goto 18, 3) := by decide +kernel
theorem dX11_shift_344 : decode cX11_shift 344 = .ok (.iload 4, 2) := by decide +kernel
theorem dX11_shift_346 : decode cX11_shift 346 = .ok (.iload 5, 2) := by decide +kernel
theorem dX11_shift_348 : decode cX11_shift 348 = .ok (.iconst 1, 1) := by decide +kernel
theorem dX11_shift_349 : decode cX11_shift 349 = .ok (.iadd, 1) := by decide +kernel
theorem dX11_shift_350 : decode cX11_shift 350 = .ok (.iload 11, 2) := by decide +kernel
theorem dX11_shift_352 : decode cX11_shift 352 = .ok (.isub, 1) := by decide +kernel
theorem dX11_shift_353 : decode cX11_shift 353 = .ok (.imul, 1) := by decide +kernel
theorem dX11_shift_354 : decode cX11_shift 354 = .ok (.iload 5, 2) := by decide +kernel
theorem dX11_shift_356 : decode cX11_shift 356 = .ok (.iconst 1, 1) := by decide +kernel
theorem dX11_shift_357 : decode cX11_shift 357 = .ok (.iadd, 1) := by decide +kernel
theorem dX11_shift_358 : decode cX11_shift 358 = .ok (.idiv, 1) := by decide +kernel
theorem dX11_shift_359 : decode cX11_shift 359 = .ok (.iadd, 1) := by decide +kernel
theorem dX11_shift_360 : decode cX11_shift 360 = .ok (.iastore, 1) := by decide +kernel
theorem dX11_shift_361 : decode cX11_shift 361 = .ok (.iinc 10 1, 3) := by decide +kernel
theorem dX11_shift_364 : decode cX11_shift 364 = .ok (.goto (-161), 3) := by decide +kernel
theorem dX11_shift_367 : decode cX11_shift 367 = .ok (.aload_n 0, 1) := by decide +kernel
theorem dX11_shift_368 : decode cX11_shift 368 = .ok (.iload_n 1, 1) := by decide +kernel
theorem dX11_shift_369 : decode cX11_shift 369 = .ok (.invokevirtual 337, 3) := by decide +kernel
theorem dX11_shift_372 : decode cX11_shift 372 = .ok (.ifCond .ne 10, 3) := by decide +kernel
theorem dX11_shift_375 : decode cX11_shift 375 = .ok (.aload_n 0, 1) := by decide +kernel
theorem dX11_shift_376 : decode cX11_shift 376 = .ok (.bipush 8, 2) := by decide +kernel
theorem dX11_shift_378 : decode cX11_shift 378 = .ok (.invokevirtual 276, 3) := by decide +kernel
theorem dX11_shift_381 : decode cX11_shift 381 = .ok (.ireturn, 1) := by decide +kernel
theorem dX11_shift_382 : decode cX11_shift 382 = .ok (.aload_n 0, 1) := by decide +kernel
theorem dX11_shift_383 : decode cX11_shift 383 = .ok (.iload_n 1, 1) := by decide +kernel
theorem dX11_shift_384 : decode cX11_shift 384 = .ok (.iconst 3, 1) := by decide +kernel
theorem dX11_shift_385 : decode cX11_shift 385 = .ok (.invokevirtual 340, 3) := by decide +kernel
theorem dX11_shift_388 : decode cX11_shift 388 = .ok (.ireturn, 1) := by decide +kernel
theorem dX11_grow_0 : decode cX11_grow 0 = .ok (.aload_n 0, 1) := by decide +kernel
theorem dX11_grow_1 : decode cX11_grow 1 = .ok (.iload_n 1, 1) := by decide +kernel
theorem dX11_grow_2 : decode cX11_grow 2 = .ok (.invokevirtual 312, 3) := by decide +kernel
theorem dX11_grow_5 : decode cX11_grow 5 = .ok (.istore_n 2, 1) := by decide +kernel
theorem dX11_grow_6 : decode cX11_grow 6 = .ok (.iload_n 2, 1) := by decide +kernel
theorem dX11_grow_7 : decode cX11_grow 7 = .ok (.ifCond .le 7, 3) := by decide +kernel
theorem dX11_grow_10 : decode cX11_grow 10 = .ok (.iload_n 2, 1) := by decide +kernel
theorem dX11_grow_11 : decode cX11_grow 11 = .ok (.goto 32, 3) := by decide +kernel
theorem dX11_grow_14 : decode cX11_grow 14 = .ok (.aload_n 0, 1) := by decide +kernel
theorem dX11_grow_15 : decode cX11_grow 15 = .ok (.getfield 7, 3) := by decide +kernel
theorem dX11_grow_18 : decode cX11_grow 18 = .ok (.iload_n 1, 1) := by decide +kernel
theorem dX11_grow_19 : decode cX11_grow 19 = .ok (.iaload, 1) := by decide +kernel
theorem dX11_grow_20 : decode cX11_grow 20 = .ok (.bipush 6, 2) := by decide +kernel
theorem dX11_grow_22 : decode cX11_grow 22 = .ok (.if_icmp .eq 7, 3) := by decide +kernel
theorem dX11_grow_25 : decode cX11_grow 25 = .ok (.iconst 3, 1) := by decide +kernel
theorem dX11_grow_26 : decode cX11_grow 26 = .ok (.goto 17, 3) := by decide +kernel
theorem dX11_grow_29 : decode cX11_grow 29 = .ok (.aload_n 0, 1) := by decide +kernel
theorem dX11_grow_30 : decode cX11_grow 30 = .ok (.getfield 25, 3) := by decide +kernel
theorem dX11_grow_33 : decode cX11_grow 33 = .ok (.iload_n 1, 1) := by decide +kernel
theorem dX11_grow_34 : decode cX11_grow 34 = .ok (.baload, 1) := by decide +kernel
theorem dX11_grow_35 : decode cX11_grow 35 = .ok (.ifCond .eq 7, 3) := by decide +kernel
theorem dX11_grow_38 : decode cX11_grow 38 = .ok (.iconst 5, 1) := by decide +kernel
theorem dX11_grow_39 : decode cX11_grow 39 = .ok (.goto 4, 3) := by decide +kernel
theorem dX11_grow_42 : decode cX11_grow 42 = .ok (.iconst 0, 1) := by decide +kernel
theorem dX11_grow_43 : decode cX11_grow 43 = .ok (.istore_n 2, 1) := by decide +kernel
theorem dX11_grow_44 : decode cX11_grow 44 = .ok (.iload_n 2, 1) := by decide +kernel
theorem dX11_grow_45 : decode cX11_grow 45 = .ok (.ifCond .le 9, 3) := by decide +kernel
theorem dX11_grow_48 : decode cX11_grow 48 = .ok (.aload_n 0, 1) := by decide +kernel
theorem dX11_grow_49 : decode cX11_grow 49 = .ok (.iload_n 2, 1) := by decide +kernel
theorem dX11_grow_50 : decode cX11_grow 50 = .ok (.invokevirtual 276, 3) := by decide +kernel
theorem dX11_grow_53 : decode cX11_grow 53 = .ok (.ireturn, 1) := by decide +kernel
theorem dX11_grow_54 : decode cX11_grow 54 = .ok (.aload_n 0, 1) := by decide +kernel
theorem dX11_grow_55 : decode cX11_grow 55 = .ok (.iload_n 1, 1) := by decide +kernel
theorem dX11_grow_56 : decode cX11_grow 56 = .ok (.invokevirtual 285, 3) := by decide +kernel
theorem dX11_grow_59 : decode cX11_grow 59 = .ok (.iconst 0, 1) := by decide +kernel
theorem dX11_grow_60 : decode cX11_grow 60 = .ok (.istore_n 3, 1) := by decide +kernel
theorem dX11_grow_61 : decode cX11_grow 61 = .ok (.iload_n 3, 1) := by decide +kernel
theorem dX11_grow_62 : decode cX11_grow 62 = .ok (.aload_n 0, 1) := by decide +kernel
theorem dX11_grow_63 : decode cX11_grow 63 = .ok (.getfield 191, 3) := by decide +kernel
theorem dX11_grow_66 : decode cX11_grow 66 = .ok (.if_icmp .ge 61, 3) := by decide +kernel
theorem dX11_grow_69 : decode cX11_grow 69 = .ok (.aload_n 0, 1) := by decide +kernel
theorem dX11_grow_70 : decode cX11_grow 70 = .ok (.getfield 44, 3) := by decide +kernel
theorem dX11_grow_73 : decode cX11_grow 73 = .ok (.bipush 40, 2) := by decide +kernel
theorem dX11_grow_75 : decode cX11_grow 75 = .ok (.iload_n 1, 1) := by decide +kernel
theorem dX11_grow_76 : decode cX11_grow 76 = .ok (.imul, 1) := by decide +kernel
theorem dX11_grow_77 : decode cX11_grow 77 = .ok (.iload_n 3, 1) := by decide +kernel
theorem dX11_grow_78 : decode cX11_grow 78 = .ok (.iadd, 1) := by decide +kernel
theorem dX11_grow_79 : decode cX11_grow 79 = .ok (.iconst 2, 1) := by decide +kernel
theorem dX11_grow_80 : decode cX11_grow 80 = .ok (.aload_n 0, 1) := by decide +kernel
theorem dX11_grow_81 : decode cX11_grow 81 = .ok (.getfield 86, 3) := by decide +kernel
theorem dX11_grow_84 : decode cX11_grow 84 = .ok (.iload_n 3, 1) := by decide +kernel
theorem dX11_grow_85 : decode cX11_grow 85 = .ok (.iaload, 1) := by decide +kernel
theorem dX11_grow_86 : decode cX11_grow 86 = .ok (.imul, 1) := by decide +kernel
theorem dX11_grow_87 : decode cX11_grow 87 = .ok (.aload_n 0, 1) := by decide +kernel
theorem dX11_grow_88 : decode cX11_grow 88 = .ok (.getfield 86, 3) := by decide +kernel
theorem dX11_grow_91 : decode cX11_grow 91 = .ok (.iconst 0, 1) := by decide +kernel
theorem dX11_grow_92 : decode cX11_grow 92 = .ok (.iaload, 1) := by decide +kernel
theorem dX11_grow_93 : decode cX11_grow 93 = .ok (.isub, 1) := by decide +kernel
theorem dX11_grow_94 : decode cX11_grow 94 = .ok (.iastore, 1) := by decide +kernel
theorem dX11_grow_95 : decode cX11_grow 95 = .ok (.aload_n 0, 1) := by decide +kernel
theorem dX11_grow_96 : decode cX11_grow 96 = .ok (.getfield 47, 3) := by decide +kernel
theorem dX11_grow_99 : decode cX11_grow 99 = .ok (.bipush 40, 2) := by decide +kernel
theorem dX11_grow_101 : decode cX11_grow 101 = .ok (.iload_n 1, 1) := by decide +kernel
theorem dX11_grow_102 : decode cX11_grow 102 = .ok (.imul, 1) := by decide +kernel
theorem dX11_grow_103 : decode cX11_grow 103 = .ok (.iload_n 3, 1) := by decide +kernel
theorem dX11_grow_104 : decode cX11_grow 104 = .ok (.iadd, 1) := by decide +kernel
theorem dX11_grow_105 : decode cX11_grow 105 = .ok (.iconst 2, 1) := by decide +kernel
theorem dX11_grow_106 : decode cX11_grow 106 = .ok (.aload_n 0, 1) := by decide +kernel
theorem dX11_grow_107 : decode cX11_grow 107 = .ok (.getfield 89, 3) := by decide +kernel
theorem dX11_grow_110 : decode cX11_grow 110 = .ok (.iload_n 3, 1) := by decide +kernel
theorem dX11_grow_111 : decode cX11_grow 111 = .ok (.iaload, 1) := by decide +kernel
theorem dX11_grow_112 : decode cX11_grow 112 = .ok (.imul, 1) := by decide +kernel
theorem dX11_grow_113 : decode cX11_grow 113 = .ok (.aload_n 0, 1) := by decide +kernel
theorem dX11_grow_114 : decode cX11_grow 114 = .ok (.getfield 89, 3) := by decide +kernel
theorem dX11_grow_117 : decode cX11_grow 117 = .ok (.iconst 0, 1) := by decide +kernel
theorem dX11_grow_118 : decode cX11_grow 118 = .ok (.iaload, 1) := by decide +kernel
theorem dX11_grow_119 : decode cX11_grow 119 = .ok (.isub, 1) := by decide +kernel
theorem dX11_grow_120 : decode cX11_grow 120 = .ok (.iastore, 1) := by decide +kernel
theorem dX11_grow_121 : decode cX11_grow 121 = .ok (.iinc 3 1, 3) := by decide +kernel
theorem dX11_grow_124 : decode cX11_grow 124 = .ok (.goto (-63), 3) := by decide +kernel
theorem dX11_grow_127 : decode cX11_grow 127 = .ok (.aload_n 0, 1) := by decide +kernel
theorem dX11_grow_128 : decode cX11_grow 128 = .ok (.iload_n 1, 1) := by decide +kernel
theorem dX11_grow_129 : decode cX11_grow 129 = .ok (.iconst 4, 1) := by decide +kernel
theorem dX11_grow_130 : decode cX11_grow 130 = .ok (.invokevirtual 340, 3) := by decide +kernel
theorem dX11_grow_133 : decode cX11_grow 133 = .ok (.ireturn, 1) := by decide +kernel
theorem dX11_box_0 : decode cX11_box 0 = .ok (.iconst 0, 1) := by decide +kernel
theorem dX11_box_1 : decode cX11_box 1 = .ok (.istore_n 3, 1) := by decide +kernel
theorem dX11_box_2 : decode cX11_box 2 = .ok (.iload_n 3, 1) := by decide +kernel
theorem dX11_box_3 : decode cX11_box 3 = .ok (.aload_n 0, 1) := by decide +kernel
theorem dX11_box_4 : decode cX11_box 4 = .ok (.getfield 41, 3) := by decide +kernel
theorem dX11_box_7 : decode cX11_box 7 = .ok (.iload_n 1, 1) := by decide +kernel
theorem dX11_box_8 : decode cX11_box 8 = .ok (.iaload, 1) := by decide +kernel
theorem dX11_box_9 : decode cX11_box 9 = .ok (.if_icmp .ge 142, 3) := by decide +kernel
theorem dX11_box_12 : decode cX11_box 12 = .ok (.aload_n 0, 1) := by decide +kernel
theorem dX11_box_13 : decode cX11_box 13 = .ok (.getfield 44, 3) := by decide +kernel
theorem dX11_box_16 : decode cX11_box 16 = .ok (.bipush 40, 2) := by decide +kernel
theorem dX11_box_18 : decode cX11_box 18 = .ok (.iload_n 1, 1) := by decide +kernel
theorem dX11_box_19 : decode cX11_box 19 = .ok (.imul, 1) := by decide +kernel
theorem dX11_box_20 : decode cX11_box 20 = .ok (.iload_n 3, 1) := by decide +kernel
theorem dX11_box_21 : decode cX11_box 21 = .ok (.iadd, 1) := by decide +kernel
theorem dX11_box_22 : decode cX11_box 22 = .ok (.iaload, 1) := by decide +kernel
theorem dX11_box_23 : decode cX11_box 23 = .ok (.istore 4, 2) := by decide +kernel
theorem dX11_box_25 : decode cX11_box 25 = .ok (.aload_n 0, 1) := by decide +kernel
theorem dX11_box_26 : decode cX11_box 26 = .ok (.getfield 47, 3) := by decide +kernel
theorem dX11_box_29 : decode cX11_box 29 = .ok (.bipush 40, 2) := by decide +kernel
theorem dX11_box_31 : decode cX11_box 31 = .ok (.iload_n 1, 1) := by decide +kernel
theorem dX11_box_32 : decode cX11_box 32 = .ok (.imul, 1) := by decide +kernel
theorem dX11_box_33 : decode cX11_box 33 = .ok (.iload_n 3, 1) := by decide +kernel
theorem dX11_box_34 : decode cX11_box 34 = .ok (.iadd, 1) := by decide +kernel
theorem dX11_box_35 : decode cX11_box 35 = .ok (.iaload, 1) := by decide +kernel
theorem dX11_box_36 : decode cX11_box 36 = .ok (.istore 5, 2) := by decide +kernel
theorem dX11_box_38 : decode cX11_box 38 = .ok (.iload_n 2, 1) := by decide +kernel
theorem dX11_box_39 : decode cX11_box 39 = .ok (.ifCond .eq 11, 3) := by decide +kernel
theorem dX11_box_42 : decode cX11_box 42 = .ok (.iload_n 3, 1) := by decide +kernel
theorem dX11_box_43 : decode cX11_box 43 = .ok (.ifCond .ne 7, 3) := by decide +kernel
theorem dX11_box_46 : decode cX11_box 46 = .ok (.iconst 1, 1) := by decide +kernel
theorem dX11_box_47 : decode cX11_box 47 = .ok (.goto 4, 3) := by decide +kernel
theorem dX11_box_50 : decode cX11_box 50 = .ok (.iconst 0, 1) := by decide +kernel
theorem dX11_box_51 : decode cX11_box 51 = .ok (.istore 6, 2) := by decide +kernel
theorem dX11_box_53 : decode cX11_box 53 = .ok (.aload_n 0, 1) := by decide +kernel
theorem dX11_box_54 : decode cX11_box 54 = .ok (.iload 6, 2) := by decide +kernel
theorem dX11_box_56 : decode cX11_box 56 = .ok (.ifCond .eq 8, 3) := by decide +kernel
theorem dX11_box_59 : decode cX11_box 59 = .ok (.iload 4, 2) := by decide +kernel
theorem dX11_box_61 : decode cX11_box 61 = .ok (.goto 12, 3) := by decide +kernel
theorem dX11_box_64 : decode cX11_box 64 = .ok (.aload_n 0, 1) := by decide +kernel
theorem dX11_box_65 : decode cX11_box 65 = .ok (.getfield 346, 3) := by decide +kernel
theorem dX11_box_68 : decode cX11_box 68 = .ok (.iload 4, 2) := by decide +kernel
theorem dX11_box_70 : decode cX11_box 70 = .ok (.invokestatic 144, 3) := by decide +kernel
theorem dX11_box_73 : decode cX11_box 73 = .ok (.putfield 346, 3) := by decide +kernel
theorem dX11_box_76 : decode cX11_box 76 = .ok (.aload_n 0, 1) := by decide +kernel
theorem dX11_box_77 : decode cX11_box 77 = .ok (.iload 6, 2) := by decide +kernel
theorem dX11_box_79 : decode cX11_box 79 = .ok (.ifCond .eq 8, 3) := by decide +kernel
theorem dX11_box_82 : decode cX11_box 82 = .ok (.iload 5, 2) := by decide +kernel
theorem dX11_box_84 : decode cX11_box 84 = .ok (.goto 12, 3) := by decide +kernel
theorem dX11_box_87 : decode cX11_box 87 = .ok (.aload_n 0, 1) := by decide +kernel
theorem dX11_box_88 : decode cX11_box 88 = .ok (.getfield 349, 3) := by decide +kernel
theorem dX11_box_91 : decode cX11_box 91 = .ok (.iload 5, 2) := by decide +kernel
theorem dX11_box_93 : decode cX11_box 93 = .ok (.invokestatic 144, 3) := by decide +kernel
theorem dX11_box_96 : decode cX11_box 96 = .ok (.putfield 349, 3) := by decide +kernel
theorem dX11_box_99 : decode cX11_box 99 = .ok (.aload_n 0, 1) := by decide +kernel
theorem dX11_box_100 : decode cX11_box 100 = .ok (.iload 6, 2) := by decide +kernel
theorem dX11_box_102 : decode cX11_box 102 = .ok (.ifCond .eq 8, 3) := by decide +kernel
theorem dX11_box_105 : decode cX11_box 105 = .ok (.iload 4, 2) := by decide +kernel
theorem dX11_box_107 : decode cX11_box 107 = .ok (.goto 12, 3) := by decide +kernel
theorem dX11_box_110 : decode cX11_box 110 = .ok (.aload_n 0, 1) := by decide +kernel
theorem dX11_box_111 : decode cX11_box 111 = .ok (.getfield 352, 3) := by decide +kernel
theorem dX11_box_114 : decode cX11_box 114 = .ok (.iload 4, 2) := by decide +kernel
theorem dX11_box_116 : decode cX11_box 116 = .ok (.invokestatic 150, 3) := by decide +kernel
theorem dX11_box_119 : decode cX11_box 119 = .ok (.putfield 352, 3) := by decide +kernel
theorem dX11_box_122 : decode cX11_box 122 = .ok (.aload_n 0, 1) := by decide +kernel
theorem dX11_box_123 : decode cX11_box 123 = .ok (.iload 6, 2) := by decide +kernel
theorem dX11_box_125 : decode cX11_box 125 = .ok (.ifCond .eq 8, 3) := by decide +kernel
theorem dX11_box_128 : decode cX11_box 128 = .ok (.iload 5, 2) := by decide +kernel
theorem dX11_box_130 : decode cX11_box 130 = .ok (.goto 12, 3) := by decide +kernel
theorem dX11_box_133 : decode cX11_box 133 = .ok (.aload_n 0, 1) := by decide +kernel
theorem dX11_box_134 : decode cX11_box 134 = .ok (.getfield 355, 3) := by decide +kernel
theorem dX11_box_137 : decode cX11_box 137 = .ok (.iload 5, 2) := by decide +kernel
theorem dX11_box_139 : decode cX11_box 139 = .ok (.invokestatic 150, 3) := by decide +kernel
theorem dX11_box_142 : decode cX11_box 142 = .ok (.putfield 355, 3) := by decide +kernel
theorem dX11_box_145 : decode cX11_box 145 = .ok (.iinc 3 1, 3) := by decide +kernel
theorem dX11_box_148 : decode cX11_box 148 = .ok (.goto (-146), 3) := by decide +kernel
theorem dX11_box_151 : decode cX11_box 151 = .ok (.return_, 1) := by decide +kernel
theorem dX11_layBox_0 : decode cX11_layBox 0 = .ok (.aload_n 0, 1) := by decide +kernel
theorem dX11_layBox_1 : decode cX11_layBox 1 = .ok (.getfield 41, 3) := by decide +kernel
theorem dX11_layBox_4 : decode cX11_layBox 4 = .ok (.iload_n 1, 1) := by decide +kernel
theorem dX11_layBox_5 : decode cX11_layBox 5 = .ok (.iconst 4, 1) := by decide +kernel
theorem dX11_layBox_6 : decode cX11_layBox 6 = .ok (.iastore, 1) := by decide +kernel
theorem dX11_layBox_7 : decode cX11_layBox 7 = .ok (.iconst 0, 1) := by decide +kernel
theorem dX11_layBox_8 : decode cX11_layBox 8 = .ok (.istore_n 2, 1) := by decide +kernel
theorem dX11_layBox_9 : decode cX11_layBox 9 = .ok (.iload_n 2, 1) := by decide +kernel
theorem dX11_layBox_10 : decode cX11_layBox 10 = .ok (.iconst 4, 1) := by decide +kernel
theorem dX11_layBox_11 : decode cX11_layBox 11 = .ok (.if_icmp .ge 68, 3) := by decide +kernel
theorem dX11_layBox_14 : decode cX11_layBox 14 = .ok (.aload_n 0, 1) := by decide +kernel
theorem dX11_layBox_15 : decode cX11_layBox 15 = .ok (.getfield 44, 3) := by decide +kernel
theorem dX11_layBox_18 : decode cX11_layBox 18 = .ok (.bipush 40, 2) := by decide +kernel
theorem dX11_layBox_20 : decode cX11_layBox 20 = .ok (.iload_n 1, 1) := by decide +kernel
theorem dX11_layBox_21 : decode cX11_layBox 21 = .ok (.imul, 1) := by decide +kernel
theorem dX11_layBox_22 : decode cX11_layBox 22 = .ok (.iload_n 2, 1) := by decide +kernel
theorem dX11_layBox_23 : decode cX11_layBox 23 = .ok (.iadd, 1) := by decide +kernel
theorem dX11_layBox_24 : decode cX11_layBox 24 = .ok (.iload_n 2, 1) := by decide +kernel
theorem dX11_layBox_25 : decode cX11_layBox 25 = .ok (.iconst 1, 1) := by decide +kernel
theorem dX11_layBox_26 : decode cX11_layBox 26 = .ok (.if_icmp .eq 8, 3) := by decide +kernel
theorem dX11_layBox_29 : decode cX11_layBox 29 = .ok (.iload_n 2, 1) := by decide +kernel
theorem dX11_layBox_30 : decode cX11_layBox 30 = .ok (.iconst 2, 1) := by decide +kernel
theorem dX11_layBox_31 : decode cX11_layBox 31 = .ok (.if_icmp .ne 10, 3) := by decide +kernel
theorem dX11_layBox_34 : decode cX11_layBox 34 = .ok (.aload_n 0, 1) := by decide +kernel
theorem dX11_layBox_35 : decode cX11_layBox 35 = .ok (.getfield 352, 3) := by decide +kernel
theorem dX11_layBox_38 : decode cX11_layBox 38 = .ok (.goto 7, 3) := by decide +kernel
theorem dX11_layBox_41 : decode cX11_layBox 41 = .ok (.aload_n 0, 1) := by decide +kernel
theorem dX11_layBox_42 : decode cX11_layBox 42 = .ok (.getfield 346, 3) := by decide +kernel
theorem dX11_layBox_45 : decode cX11_layBox 45 = .ok (.iastore, 1) := by decide +kernel
theorem dX11_layBox_46 : decode cX11_layBox 46 = .ok (.aload_n 0, 1) := by decide +kernel
theorem dX11_layBox_47 : decode cX11_layBox 47 = .ok (.getfield 47, 3) := by decide +kernel
theorem dX11_layBox_50 : decode cX11_layBox 50 = .ok (.bipush 40, 2) := by decide +kernel
theorem dX11_layBox_52 : decode cX11_layBox 52 = .ok (.iload_n 1, 1) := by decide +kernel
theorem dX11_layBox_53 : decode cX11_layBox 53 = .ok (.imul, 1) := by decide +kernel
theorem dX11_layBox_54 : decode cX11_layBox 54 = .ok (.iload_n 2, 1) := by decide +kernel
theorem dX11_layBox_55 : decode cX11_layBox 55 = .ok (.iadd, 1) := by decide +kernel
theorem dX11_layBox_56 : decode cX11_layBox 56 = .ok (.iload_n 2, 1) := by decide +kernel
theorem dX11_layBox_57 : decode cX11_layBox 57 = .ok (.iconst 1, 1) := by decide +kernel
theorem dX11_layBox_58 : decode cX11_layBox 58 = .ok (.if_icmp .le 10, 3) := by decide +kernel
theorem dX11_layBox_61 : decode cX11_layBox 61 = .ok (.aload_n 0, 1) := by decide +kernel
theorem dX11_layBox_62 : decode cX11_layBox 62 = .ok (.getfield 355, 3) := by decide +kernel
theorem dX11_layBox_65 : decode cX11_layBox 65 = .ok (.goto 7, 3) := by decide +kernel
theorem dX11_layBox_68 : decode cX11_layBox 68 = .ok (.aload_n 0, 1) := by decide +kernel
theorem dX11_layBox_69 : decode cX11_layBox 69 = .ok (.getfield 349, 3) := by decide +kernel
theorem dX11_layBox_72 : decode cX11_layBox 72 = .ok (.iastore, 1) := by decide +kernel
theorem dX11_layBox_73 : decode cX11_layBox 73 = .ok (.iinc 2 1, 3) := by decide +kernel
theorem dX11_layBox_76 : decode cX11_layBox 76 = .ok (.goto (-67), 3) := by decide +kernel
theorem dX11_layBox_79 : decode cX11_layBox 79 = .ok (.aload_n 0, 1) := by decide +kernel
theorem dX11_layBox_80 : decode cX11_layBox 80 = .ok (.getfield 7, 3) := by decide +kernel
theorem dX11_layBox_83 : decode cX11_layBox 83 = .ok (.iload_n 1, 1) := by decide +kernel
theorem dX11_layBox_84 : decode cX11_layBox 84 = .ok (.bipush 6, 2) := by decide +kernel
theorem dX11_layBox_86 : decode cX11_layBox 86 = .ok (.iastore, 1) := by decide +kernel
theorem dX11_layBox_87 : decode cX11_layBox 87 = .ok (.return_, 1) := by decide +kernel
theorem dX11_square_0 : decode cX11_square 0 = .ok (.aload_n 0, 1) := by decide +kernel
theorem dX11_square_1 : decode cX11_square 1 = .ok (.iload_n 1, 1) := by decide +kernel
theorem dX11_square_2 : decode cX11_square 2 = .ok (.invokevirtual 312, 3) := by decide +kernel
theorem dX11_square_5 : decode cX11_square 5 = .ok (.istore_n 3, 1) := by decide +kernel
theorem dX11_square_6 : decode cX11_square 6 = .ok (.iload_n 3, 1) := by decide +kernel
theorem dX11_square_7 : decode cX11_square 7 = .ok (.ifCond .le 7, 3) := by decide +kernel
theorem dX11_square_10 : decode cX11_square 10 = .ok (.iload_n 3, 1) := by decide +kernel
theorem dX11_square_11 : decode cX11_square 11 = .ok (.goto 26, 3) := by decide +kernel
theorem dX11_square_14 : decode cX11_square 14 = .ok (.aload_n 0, 1) := by decide +kernel
theorem dX11_square_15 : decode cX11_square 15 = .ok (.getfield 7, 3) := by decide +kernel
theorem dX11_square_18 : decode cX11_square 18 = .ok (.iload_n 1, 1) := by decide +kernel
theorem dX11_square_19 : decode cX11_square 19 = .ok (.iaload, 1) := by decide +kernel
theorem dX11_square_20 : decode cX11_square 20 = .ok (.iconst 5, 1) := by decide +kernel
theorem dX11_square_21 : decode cX11_square 21 = .ok (.if_icmp .eq 7, 3) := by decide +kernel
theorem dX11_square_24 : decode cX11_square 24 = .ok (.iconst 3, 1) := by decide +kernel
theorem dX11_square_25 : decode cX11_square 25 = .ok (.goto 12, 3) := by decide +kernel
theorem dX11_square_28 : decode cX11_square 28 = .ok (.iload_n 2, 1) := by decide +kernel
theorem dX11_square_29 : decode cX11_square 29 = .ok (.ifCond .ge 7, 3) := by decide +kernel
theorem dX11_square_32 : decode cX11_square 32 = .ok (.iconst 4, 1) := by decide +kernel
theorem dX11_square_33 : decode cX11_square 33 = .ok (.goto 4, 3) := by decide +kernel
theorem dX11_square_36 : decode cX11_square 36 = .ok (.iconst 0, 1) := by decide +kernel
theorem dX11_square_37 : decode cX11_square 37 = .ok (.istore_n 3, 1) := by decide +kernel
theorem dX11_square_38 : decode cX11_square 38 = .ok (.iload_n 3, 1) := by decide +kernel
theorem dX11_square_39 : decode cX11_square 39 = .ok (.ifCond .le 9, 3) := by decide +kernel
theorem dX11_square_42 : decode cX11_square 42 = .ok (.aload_n 0, 1) := by decide +kernel
theorem dX11_square_43 : decode cX11_square 43 = .ok (.iload_n 3, 1) := by decide +kernel
theorem dX11_square_44 : decode cX11_square 44 = .ok (.invokevirtual 276, 3) := by decide +kernel
theorem dX11_square_47 : decode cX11_square 47 = .ok (.ireturn, 1) := by decide +kernel
theorem dX11_square_48 : decode cX11_square 48 = .ok (.aload_n 0, 1) := by decide +kernel
theorem dX11_square_49 : decode cX11_square 49 = .ok (.getfield 25, 3) := by decide +kernel
theorem dX11_square_52 : decode cX11_square 52 = .ok (.iload_n 1, 1) := by decide +kernel
theorem dX11_square_53 : decode cX11_square 53 = .ok (.baload, 1) := by decide +kernel
theorem dX11_square_54 : decode cX11_square 54 = .ok (.ifCond .eq 9, 3) := by decide +kernel
theorem dX11_square_57 : decode cX11_square 57 = .ok (.aload_n 0, 1) := by decide +kernel
theorem dX11_square_58 : decode cX11_square 58 = .ok (.iconst 5, 1) := by decide +kernel
theorem dX11_square_59 : decode cX11_square 59 = .ok (.invokevirtual 276, 3) := by decide +kernel
theorem dX11_square_62 : decode cX11_square 62 = .ok (.ireturn, 1) := by decide +kernel
theorem dX11_square_63 : decode cX11_square 63 = .ok (.aload_n 0, 1) := by decide +kernel
theorem dX11_square_64 : decode cX11_square 64 = .ok (.iload_n 1, 1) := by decide +kernel
theorem dX11_square_65 : decode cX11_square 65 = .ok (.iconst 1, 1) := by decide +kernel
theorem dX11_square_66 : decode cX11_square 66 = .ok (.invokevirtual 358, 3) := by decide +kernel
theorem dX11_square_69 : decode cX11_square 69 = .ok (.ldc2_w 362, 3) := by decide +kernel
theorem dX11_square_72 : decode cX11_square 72 = .ok (.aload_n 0, 1) := by decide +kernel
theorem dX11_square_73 : decode cX11_square 73 = .ok (.getfield 352, 3) := by decide +kernel
theorem dX11_square_76 : decode cX11_square 76 = .ok (.aload_n 0, 1) := by decide +kernel
theorem dX11_square_77 : decode cX11_square 77 = .ok (.getfield 346, 3) := by decide +kernel
theorem dX11_square_80 : decode cX11_square 80 = .ok (.isub, 1) := by decide +kernel
theorem dX11_square_81 : decode cX11_square 81 = .ok (.i2l, 1) := by decide +kernel
theorem dX11_square_82 : decode cX11_square 82 = .ok (.lmul, 1) := by decide +kernel
theorem dX11_square_83 : decode cX11_square 83 = .ok (.aload_n 0, 1) := by decide +kernel
theorem dX11_square_84 : decode cX11_square 84 = .ok (.getfield 355, 3) := by decide +kernel
theorem dX11_square_87 : decode cX11_square 87 = .ok (.aload_n 0, 1) := by decide +kernel
theorem dX11_square_88 : decode cX11_square 88 = .ok (.getfield 349, 3) := by decide +kernel
theorem dX11_square_91 : decode cX11_square 91 = .ok (.isub, 1) := by decide +kernel
theorem dX11_square_92 : decode cX11_square 92 = .ok (.i2l, 1) := by decide +kernel
theorem dX11_square_93 : decode cX11_square 93 = .ok (.lmul, 1) := by decide +kernel
theorem dX11_square_94 : decode cX11_square 94 = .ok (.aload_n 0, 1) := by decide +kernel
theorem dX11_square_95 : decode cX11_square 95 = .ok (.iload_n 1, 1) := by decide +kernel
theorem dX11_square_96 : decode cX11_square 96 = .ok (.invokevirtual 364, 3) := by decide +kernel
theorem dX11_square_99 : decode cX11_square 99 = .ok (.lsub, 1) := by decide +kernel
theorem dX11_square_100 : decode cX11_square 100 = .ok (.lstore 4, 2) := by decide +kernel
theorem dX11_square_102 : decode cX11_square 102 = .ok (.lload 4, 2) := by decide +kernel
theorem dX11_square_104 : decode cX11_square 104 = .ok (.iload_n 2, 1) := by decide +kernel
theorem dX11_square_105 : decode cX11_square 105 = .ok (.i2l, 1) := by decide +kernel
theorem dX11_square_106 : decode cX11_square 106 = .ok (.lcmp, 1) := by decide +kernel
theorem dX11_square_107 : decode cX11_square 107 = .ok (.ifCond .le 9, 3) := by decide +kernel
theorem dX11_square_110 : decode cX11_square 110 = .ok (.aload_n 0, 1) := by decide +kernel
theorem dX11_square_111 : decode cX11_square 111 = .ok (.iconst 4, 1) := by decide +kernel
theorem dX11_square_112 : decode cX11_square 112 = .ok (.invokevirtual 276, 3) := by decide +kernel
theorem dX11_square_115 : decode cX11_square 115 = .ok (.ireturn, 1) := by decide +kernel
theorem dX11_square_116 : decode cX11_square 116 = .ok (.aload_n 0, 1) := by decide +kernel
theorem dX11_square_117 : decode cX11_square 117 = .ok (.iload_n 1, 1) := by decide +kernel
theorem dX11_square_118 : decode cX11_square 118 = .ok (.invokevirtual 285, 3) := by decide +kernel
theorem dX11_square_121 : decode cX11_square 121 = .ok (.aload_n 0, 1) := by decide +kernel
theorem dX11_square_122 : decode cX11_square 122 = .ok (.iload_n 1, 1) := by decide +kernel
theorem dX11_square_123 : decode cX11_square 123 = .ok (.invokevirtual 368, 3) := by decide +kernel
theorem dX11_square_126 : decode cX11_square 126 = .ok (.aload_n 0, 1) := by decide +kernel
theorem dX11_square_127 : decode cX11_square 127 = .ok (.iload_n 1, 1) := by decide +kernel
theorem dX11_square_128 : decode cX11_square 128 = .ok (.iconst 5, 1) := by decide +kernel
theorem dX11_square_129 : decode cX11_square 129 = .ok (.invokevirtual 340, 3) := by decide +kernel
theorem dX11_square_132 : decode cX11_square 132 = .ok (.ireturn, 1) := by decide +kernel
theorem dX11_isLess_0 : decode cX11_isLess 0 = .ok (.lload_n 1, 1) := by decide +kernel
theorem dX11_isLess_1 : decode cX11_isLess 1 = .ok (.lload 7, 2) := by decide +kernel
theorem dX11_isLess_3 : decode cX11_isLess 3 = .ok (.lmul, 1) := by decide +kernel
theorem dX11_isLess_4 : decode cX11_isLess 4 = .ok (.lload 5, 2) := by decide +kernel
theorem dX11_isLess_6 : decode cX11_isLess 6 = .ok (.lload_n 3, 1) := by decide +kernel
theorem dX11_isLess_7 : decode cX11_isLess 7 = .ok (.lmul, 1) := by decide +kernel
theorem dX11_isLess_8 : decode cX11_isLess 8 = .ok (.lcmp, 1) := by decide +kernel
theorem dX11_isLess_9 : decode cX11_isLess 9 = .ok (.ifCond .ge 7, 3) := by decide +kernel
theorem dX11_isLess_12 : decode cX11_isLess 12 = .ok (.iconst 1, 1) := by decide +kernel
theorem dX11_isLess_13 : decode cX11_isLess 13 = .ok (.goto 4, 3) := by decide +kernel
theorem dX11_isLess_16 : decode cX11_isLess 16 = .ok (.iconst 0, 1) := by decide +kernel
theorem dX11_isLess_17 : decode cX11_isLess 17 = .ok (.ireturn, 1) := by decide +kernel
theorem dX11_nearer_0 : decode cX11_nearer 0 = .ok (.aload_n 1, 1) := by decide +kernel
theorem dX11_nearer_1 : decode cX11_nearer 1 = .ok (.iload 4, 2) := by decide +kernel
theorem dX11_nearer_3 : decode cX11_nearer 3 = .ok (.iconst 2, 1) := by decide +kernel
theorem dX11_nearer_4 : decode cX11_nearer 4 = .ok (.iadd, 1) := by decide +kernel
theorem dX11_nearer_5 : decode cX11_nearer 5 = .ok (.iaload, 1) := by decide +kernel
theorem dX11_nearer_6 : decode cX11_nearer 6 = .ok (.aload_n 1, 1) := by decide +kernel
theorem dX11_nearer_7 : decode cX11_nearer 7 = .ok (.iload 4, 2) := by decide +kernel
theorem dX11_nearer_9 : decode cX11_nearer 9 = .ok (.iaload, 1) := by decide +kernel
theorem dX11_nearer_10 : decode cX11_nearer 10 = .ok (.isub, 1) := by decide +kernel
theorem dX11_nearer_11 : decode cX11_nearer 11 = .ok (.i2l, 1) := by decide +kernel
theorem dX11_nearer_12 : decode cX11_nearer 12 = .ok (.lstore 5, 2) := by decide +kernel
theorem dX11_nearer_14 : decode cX11_nearer 14 = .ok (.aload_n 1, 1) := by decide +kernel
theorem dX11_nearer_15 : decode cX11_nearer 15 = .ok (.iload 4, 2) := by decide +kernel
theorem dX11_nearer_17 : decode cX11_nearer 17 = .ok (.iconst 3, 1) := by decide +kernel
theorem dX11_nearer_18 : decode cX11_nearer 18 = .ok (.iadd, 1) := by decide +kernel
theorem dX11_nearer_19 : decode cX11_nearer 19 = .ok (.iaload, 1) := by decide +kernel
theorem dX11_nearer_20 : decode cX11_nearer 20 = .ok (.aload_n 1, 1) := by decide +kernel
theorem dX11_nearer_21 : decode cX11_nearer 21 = .ok (.iload 4, 2) := by decide +kernel
theorem dX11_nearer_23 : decode cX11_nearer 23 = .ok (.iconst 1, 1) := by decide +kernel
theorem dX11_nearer_24 : decode cX11_nearer 24 = .ok (.iadd, 1) := by decide +kernel
theorem dX11_nearer_25 : decode cX11_nearer 25 = .ok (.iaload, 1) := by decide +kernel
theorem dX11_nearer_26 : decode cX11_nearer 26 = .ok (.isub, 1) := by decide +kernel
theorem dX11_nearer_27 : decode cX11_nearer 27 = .ok (.i2l, 1) := by decide +kernel
theorem dX11_nearer_28 : decode cX11_nearer 28 = .ok (.lstore 7, 2) := by decide +kernel
theorem dX11_nearer_30 : decode cX11_nearer 30 = .ok (.iload_n 2, 1) := by decide +kernel
theorem dX11_nearer_31 : decode cX11_nearer 31 = .ok (.aload_n 1, 1) := by decide +kernel
theorem dX11_nearer_32 : decode cX11_nearer 32 = .ok (.iload 4, 2) := by decide +kernel
theorem dX11_nearer_34 : decode cX11_nearer 34 = .ok (.iaload, 1) := by decide +kernel
theorem dX11_nearer_35 : decode cX11_nearer 35 = .ok (.isub, 1) := by decide +kernel
theorem dX11_nearer_36 : decode cX11_nearer 36 = .ok (.i2l, 1) := by decide +kernel
theorem dX11_nearer_37 : decode cX11_nearer 37 = .ok (.lstore 9, 2) := by decide +kernel
theorem dX11_nearer_39 : decode cX11_nearer 39 = .ok (.iload_n 3, 1) := by decide +kernel
theorem dX11_nearer_40 : decode cX11_nearer 40 = .ok (.aload_n 1, 1) := by decide +kernel
theorem dX11_nearer_41 : decode cX11_nearer 41 = .ok (.iload 4, 2) := by decide +kernel
theorem dX11_nearer_43 : decode cX11_nearer 43 = .ok (.iconst 1, 1) := by decide +kernel
theorem dX11_nearer_44 : decode cX11_nearer 44 = .ok (.iadd, 1) := by decide +kernel
theorem dX11_nearer_45 : decode cX11_nearer 45 = .ok (.iaload, 1) := by decide +kernel
theorem dX11_nearer_46 : decode cX11_nearer 46 = .ok (.isub, 1) := by decide +kernel
theorem dX11_nearer_47 : decode cX11_nearer 47 = .ok (.i2l, 1) := by decide +kernel
theorem dX11_nearer_48 : decode cX11_nearer 48 = .ok (.lstore 11, 2) := by decide +kernel
theorem dX11_nearer_50 : decode cX11_nearer 50 = .ok (.lload 5, 2) := by decide +kernel
theorem dX11_nearer_52 : decode cX11_nearer 52 = .ok (.lload 5, 2) := by decide +kernel
theorem dX11_nearer_54 : decode cX11_nearer 54 = .ok (.lmul, 1) := by decide +kernel
theorem dX11_nearer_55 : decode cX11_nearer 55 = .ok (.lload 7, 2) := by decide +kernel
theorem dX11_nearer_57 : decode cX11_nearer 57 = .ok (.lload 7, 2) := by decide +kernel
theorem dX11_nearer_59 : decode cX11_nearer 59 = .ok (.lmul, 1) := by decide +kernel
theorem dX11_nearer_60 : decode cX11_nearer 60 = .ok (.ladd, 1) := by decide +kernel
theorem dX11_nearer_61 : decode cX11_nearer 61 = .ok (.lstore 13, 2) := by decide +kernel
theorem dX11_nearer_63 : decode cX11_nearer 63 = .ok (.lload 5, 2) := by decide +kernel
theorem dX11_nearer_65 : decode cX11_nearer 65 = .ok (.lload 9, 2) := by decide +kernel
theorem dX11_nearer_67 : decode cX11_nearer 67 = .ok (.lmul, 1) := by decide +kernel
theorem dX11_nearer_68 : decode cX11_nearer 68 = .ok (.lload 7, 2) := by decide +kernel
theorem dX11_nearer_70 : decode cX11_nearer 70 = .ok (.lload 11, 2) := by decide +kernel
theorem dX11_nearer_72 : decode cX11_nearer 72 = .ok (.lmul, 1) := by decide +kernel
theorem dX11_nearer_73 : decode cX11_nearer 73 = .ok (.ladd, 1) := by decide +kernel
theorem dX11_nearer_74 : decode cX11_nearer 74 = .ok (.lstore 15, 2) := by decide +kernel
theorem dX11_nearer_76 : decode cX11_nearer 76 = .ok (.lconst 1, 1) := by decide +kernel
theorem dX11_nearer_77 : decode cX11_nearer 77 = .ok (.lstore 19, 2) := by decide +kernel
theorem dX11_nearer_79 : decode cX11_nearer 79 = .ok (.lload 13, 2) := by decide +kernel
theorem dX11_nearer_81 : decode cX11_nearer 81 = .ok (.lconst 0, 1) := by decide +kernel
theorem dX11_nearer_82 : decode cX11_nearer 82 = .ok (.lcmp, 1) := by decide +kernel
theorem dX11_nearer_83 : decode cX11_nearer 83 = .ok (.ifCond .eq 10, 3) := by decide +kernel
theorem dX11_nearer_86 : decode cX11_nearer 86 = .ok (.lload 15, 2) := by decide +kernel
theorem dX11_nearer_88 : decode cX11_nearer 88 = .ok (.lconst 0, 1) := by decide +kernel
theorem dX11_nearer_89 : decode cX11_nearer 89 = .ok (.lcmp, 1) := by decide +kernel
theorem dX11_nearer_90 : decode cX11_nearer 90 = .ok (.ifCond .gt 19, 3) := by decide +kernel
theorem dX11_nearer_93 : decode cX11_nearer 93 = .ok (.lload 9, 2) := by decide +kernel
theorem dX11_nearer_95 : decode cX11_nearer 95 = .ok (.lload 9, 2) := by decide +kernel
theorem dX11_nearer_97 : decode cX11_nearer 97 = .ok (.lmul, 1) := by decide +kernel
theorem dX11_nearer_98 : decode cX11_nearer 98 = .ok (.lload 11, 2) := by decide +kernel
theorem dX11_nearer_100 : decode cX11_nearer 100 = .ok (.lload 11, 2) := by decide +kernel
theorem dX11_nearer_102 : decode cX11_nearer 102 = .ok (.lmul, 1) := by decide +kernel
theorem dX11_nearer_103 : decode cX11_nearer 103 = .ok (.ladd, 1) := by decide +kernel
theorem dX11_nearer_104 : decode cX11_nearer 104 = .ok (.lstore 17, 2) := by decide +kernel
theorem dX11_nearer_106 : decode cX11_nearer 106 = .ok (.goto 63, 3) := by decide +kernel
theorem dX11_nearer_109 : decode cX11_nearer 109 = .ok (.lload 15, 2) := by decide +kernel
theorem dX11_nearer_111 : decode cX11_nearer 111 = .ok (.lload 13, 2) := by decide +kernel
theorem dX11_nearer_113 : decode cX11_nearer 113 = .ok (.lcmp, 1) := by decide +kernel
theorem dX11_nearer_114 : decode cX11_nearer 114 = .ok (.ifCond .lt 31, 3) := by decide +kernel
theorem dX11_nearer_117 : decode cX11_nearer 117 = .ok (.lload 9, 2) := by decide +kernel
theorem dX11_nearer_119 : decode cX11_nearer 119 = .ok (.lload 5, 2) := by decide +kernel
theorem dX11_nearer_121 : decode cX11_nearer 121 = .ok (.lsub, 1) := by decide +kernel
theorem dX11_nearer_122 : decode cX11_nearer 122 = .ok (.lload 9, 2) := by decide +kernel
theorem dX11_nearer_124 : decode cX11_nearer 124 = .ok (.lload 5, 2) := by decide +kernel
theorem dX11_nearer_126 : decode cX11_nearer 126 = .ok (.lsub, 1) := by decide +kernel
theorem dX11_nearer_127 : decode cX11_nearer 127 = .ok (.lmul, 1) := by decide +kernel
theorem dX11_nearer_128 : decode cX11_nearer 128 = .ok (.lload 11, 2) := by decide +kernel
theorem dX11_nearer_130 : decode cX11_nearer 130 = .ok (.lload 7, 2) := by decide +kernel
theorem dX11_nearer_132 : decode cX11_nearer 132 = .ok (.lsub, 1) := by decide +kernel
theorem dX11_nearer_133 : decode cX11_nearer 133 = .ok (.lload 11, 2) := by decide +kernel
theorem dX11_nearer_135 : decode cX11_nearer 135 = .ok (.lload 7, 2) := by decide +kernel
theorem dX11_nearer_137 : decode cX11_nearer 137 = .ok (.lsub, 1) := by decide +kernel
theorem dX11_nearer_138 : decode cX11_nearer 138 = .ok (.lmul, 1) := by decide +kernel
theorem dX11_nearer_139 : decode cX11_nearer 139 = .ok (.ladd, 1) := by decide +kernel
theorem dX11_nearer_140 : decode cX11_nearer 140 = .ok (.lstore 17, 2) := by decide +kernel
theorem dX11_nearer_142 : decode cX11_nearer 142 = .ok (.goto 27, 3) := by decide +kernel
theorem dX11_nearer_145 : decode cX11_nearer 145 = .ok (.lload 5, 2) := by decide +kernel
theorem dX11_nearer_147 : decode cX11_nearer 147 = .ok (.lload 11, 2) := by decide +kernel
theorem dX11_nearer_149 : decode cX11_nearer 149 = .ok (.lmul, 1) := by decide +kernel
theorem dX11_nearer_150 : decode cX11_nearer 150 = .ok (.lload 7, 2) := by decide +kernel
theorem dX11_nearer_152 : decode cX11_nearer 152 = .ok (.lload 9, 2) := by decide +kernel
theorem dX11_nearer_154 : decode cX11_nearer 154 = .ok (.lmul, 1) := by decide +kernel
theorem dX11_nearer_155 : decode cX11_nearer 155 = .ok (.lsub, 1) := by decide +kernel
theorem dX11_nearer_156 : decode cX11_nearer 156 = .ok (.lstore 21, 2) := by decide +kernel
theorem dX11_nearer_158 : decode cX11_nearer 158 = .ok (.lload 21, 2) := by decide +kernel
theorem dX11_nearer_160 : decode cX11_nearer 160 = .ok (.lload 21, 2) := by decide +kernel
theorem dX11_nearer_162 : decode cX11_nearer 162 = .ok (.lmul, 1) := by decide +kernel
theorem dX11_nearer_163 : decode cX11_nearer 163 = .ok (.lstore 17, 2) := by decide +kernel
theorem dX11_nearer_165 : decode cX11_nearer 165 = .ok (.lload 13, 2) := by decide +kernel
theorem dX11_nearer_167 : decode cX11_nearer 167 = .ok (.lstore 19, 2) := by decide +kernel
theorem dX11_nearer_169 : decode cX11_nearer 169 = .ok (.aload_n 0, 1) := by decide +kernel
theorem dX11_nearer_170 : decode cX11_nearer 170 = .ok (.getfield 371, 3) := by decide +kernel
theorem dX11_nearer_173 : decode cX11_nearer 173 = .ok (.lconst 0, 1) := by decide +kernel
theorem dX11_nearer_174 : decode cX11_nearer 174 = .ok (.lcmp, 1) := by decide +kernel
theorem dX11_nearer_175 : decode cX11_nearer 175 = .ok (.ifCond .eq 22, 3) := by decide +kernel
theorem dX11_nearer_178 : decode cX11_nearer 178 = .ok (.aload_n 0, 1) := by decide +kernel
theorem dX11_nearer_179 : decode cX11_nearer 179 = .ok (.lload 17, 2) := by decide +kernel
theorem dX11_nearer_181 : decode cX11_nearer 181 = .ok (.lload 19, 2) := by decide +kernel
theorem dX11_nearer_183 : decode cX11_nearer 183 = .ok (.aload_n 0, 1) := by decide +kernel
theorem dX11_nearer_184 : decode cX11_nearer 184 = .ok (.getfield 375, 3) := by decide +kernel
theorem dX11_nearer_187 : decode cX11_nearer 187 = .ok (.aload_n 0, 1) := by decide +kernel
theorem dX11_nearer_188 : decode cX11_nearer 188 = .ok (.getfield 371, 3) := by decide +kernel
theorem dX11_nearer_191 : decode cX11_nearer 191 = .ok (.invokevirtual 378, 3) := by decide +kernel
theorem dX11_nearer_194 : decode cX11_nearer 194 = .ok (.ifCond .eq 15, 3) := by decide +kernel
theorem dX11_nearer_197 : decode cX11_nearer 197 = .ok (.aload_n 0, 1) := by decide +kernel
theorem dX11_nearer_198 : decode cX11_nearer 198 = .ok (.lload 17, 2) := by decide +kernel
theorem dX11_nearer_200 : decode cX11_nearer 200 = .ok (.putfield 375, 3) := by decide +kernel
theorem dX11_nearer_203 : decode cX11_nearer 203 = .ok (.aload_n 0, 1) := by decide +kernel
theorem dX11_nearer_204 : decode cX11_nearer 204 = .ok (.lload 19, 2) := by decide +kernel
theorem dX11_nearer_206 : decode cX11_nearer 206 = .ok (.putfield 371, 3) := by decide +kernel
theorem dX11_nearer_209 : decode cX11_nearer 209 = .ok (.return_, 1) := by decide +kernel
theorem dX11_plainFraction_0 : decode cX11_plainFraction 0 = .ok (.aload_n 0, 1) := by decide +kernel
theorem dX11_plainFraction_1 : decode cX11_plainFraction 1 = .ok (.getfield 375, 3) := by decide +kernel
theorem dX11_plainFraction_4 : decode cX11_plainFraction 4 = .ok (.lstore_n 1, 1) := by decide +kernel
theorem dX11_plainFraction_5 : decode cX11_plainFraction 5 = .ok (.aload_n 0, 1) := by decide +kernel
theorem dX11_plainFraction_6 : decode cX11_plainFraction 6 = .ok (.getfield 371, 3) := by decide +kernel
theorem dX11_plainFraction_9 : decode cX11_plainFraction 9 = .ok (.lstore_n 3, 1) := by decide +kernel
theorem dX11_plainFraction_10 : decode cX11_plainFraction 10 = .ok (.lload_n 1, 1) := by decide +kernel
theorem dX11_plainFraction_11 : decode cX11_plainFraction 11 = .ok (.lconst 0, 1) := by decide +kernel
theorem dX11_plainFraction_12 : decode cX11_plainFraction 12 = .ok (.lcmp, 1) := by decide +kernel
theorem dX11_plainFraction_13 : decode cX11_plainFraction 13 = .ok (.ifCond .eq 16, 3) := by decide +kernel
theorem dX11_plainFraction_16 : decode cX11_plainFraction 16 = .ok (.lload_n 3, 1) := by decide +kernel
theorem dX11_plainFraction_17 : decode cX11_plainFraction 17 = .ok (.lload_n 1, 1) := by decide +kernel
theorem dX11_plainFraction_18 : decode cX11_plainFraction 18 = .ok (.lrem, 1) := by decide +kernel
theorem dX11_plainFraction_19 : decode cX11_plainFraction 19 = .ok (.lstore 5, 2) := by decide +kernel
theorem dX11_plainFraction_21 : decode cX11_plainFraction 21 = .ok (.lload_n 1, 1) := by decide +kernel
theorem dX11_plainFraction_22 : decode cX11_plainFraction 22 = .ok (.lstore_n 3, 1) := by decide +kernel
theorem dX11_plainFraction_23 : decode cX11_plainFraction 23 = .ok (.lload 5, 2) := by decide +kernel
theorem dX11_plainFraction_25 : decode cX11_plainFraction 25 = .ok (.lstore_n 1, 1) := by decide +kernel
theorem dX11_plainFraction_26 : decode cX11_plainFraction 26 = .ok (.goto (-16), 3) := by decide +kernel
theorem dX11_plainFraction_29 : decode cX11_plainFraction 29 = .ok (.aload_n 0, 1) := by decide +kernel
theorem dX11_plainFraction_30 : decode cX11_plainFraction 30 = .ok (.dup, 1) := by decide +kernel
theorem dX11_plainFraction_31 : decode cX11_plainFraction 31 = .ok (.getfield 375, 3) := by decide +kernel
theorem dX11_plainFraction_34 : decode cX11_plainFraction 34 = .ok (.lload_n 3, 1) := by decide +kernel
theorem dX11_plainFraction_35 : decode cX11_plainFraction 35 = .ok (.ldiv, 1) := by decide +kernel
theorem dX11_plainFraction_36 : decode cX11_plainFraction 36 = .ok (.putfield 375, 3) := by decide +kernel
theorem dX11_plainFraction_39 : decode cX11_plainFraction 39 = .ok (.aload_n 0, 1) := by decide +kernel
theorem dX11_plainFraction_40 : decode cX11_plainFraction 40 = .ok (.dup, 1) := by decide +kernel
theorem dX11_plainFraction_41 : decode cX11_plainFraction 41 = .ok (.getfield 371, 3) := by decide +kernel
theorem dX11_plainFraction_44 : decode cX11_plainFraction 44 = .ok (.lload_n 3, 1) := by decide +kernel
theorem dX11_plainFraction_45 : decode cX11_plainFraction 45 = .ok (.ldiv, 1) := by decide +kernel
theorem dX11_plainFraction_46 : decode cX11_plainFraction 46 = .ok (.putfield 371, 3) := by decide +kernel
theorem dX11_plainFraction_49 : decode cX11_plainFraction 49 = .ok (.return_, 1) := by decide +kernel
theorem dX11_distance_0 : decode cX11_distance 0 = .ok (.aload_n 0, 1) := by decide +kernel
theorem dX11_distance_1 : decode cX11_distance 1 = .ok (.lconst 0, 1) := by decide +kernel
theorem dX11_distance_2 : decode cX11_distance 2 = .ok (.putfield 375, 3) := by decide +kernel
theorem dX11_distance_5 : decode cX11_distance 5 = .ok (.aload_n 0, 1) := by decide +kernel
theorem dX11_distance_6 : decode cX11_distance 6 = .ok (.lconst 0, 1) := by decide +kernel
theorem dX11_distance_7 : decode cX11_distance 7 = .ok (.putfield 371, 3) := by decide +kernel
theorem dX11_distance_10 : decode cX11_distance 10 = .ok (.aload_n 0, 1) := by decide +kernel
theorem dX11_distance_11 : decode cX11_distance 11 = .ok (.iload_n 1, 1) := by decide +kernel
theorem dX11_distance_12 : decode cX11_distance 12 = .ok (.iload_n 2, 1) := by decide +kernel
theorem dX11_distance_13 : decode cX11_distance 13 = .ok (.invokevirtual 200, 3) := by decide +kernel
theorem dX11_distance_16 : decode cX11_distance 16 = .ok (.ifCond .eq 9, 3) := by decide +kernel
theorem dX11_distance_19 : decode cX11_distance 19 = .ok (.aload_n 0, 1) := by decide +kernel
theorem dX11_distance_20 : decode cX11_distance 20 = .ok (.lconst 1, 1) := by decide +kernel
theorem dX11_distance_21 : decode cX11_distance 21 = .ok (.putfield 371, 3) := by decide +kernel
theorem dX11_distance_24 : decode cX11_distance 24 = .ok (.return_, 1) := by decide +kernel
theorem dX11_distance_25 : decode cX11_distance 25 = .ok (.iconst 0, 1) := by decide +kernel
theorem dX11_distance_26 : decode cX11_distance 26 = .ok (.istore_n 3, 1) := by decide +kernel
theorem dX11_distance_27 : decode cX11_distance 27 = .ok (.iload_n 3, 1) := by decide +kernel
theorem dX11_distance_28 : decode cX11_distance 28 = .ok (.aload_n 0, 1) := by decide +kernel
theorem dX11_distance_29 : decode cX11_distance 29 = .ok (.iload_n 1, 1) := by decide +kernel
theorem dX11_distance_30 : decode cX11_distance 30 = .ok (.invokevirtual 164, 3) := by decide +kernel
theorem dX11_distance_33 : decode cX11_distance 33 = .ok (.if_icmp .ge 129, 3) := by decide +kernel
theorem dX11_distance_36 : decode cX11_distance 36 = .ok (.aload_n 0, 1) := by decide +kernel
theorem dX11_distance_37 : decode cX11_distance 37 = .ok (.iload_n 1, 1) := by decide +kernel
theorem dX11_distance_38 : decode cX11_distance 38 = .ok (.iload_n 3, 1) := by decide +kernel
theorem dX11_distance_39 : decode cX11_distance 39 = .ok (.iconst 0, 1) := by decide +kernel
theorem dX11_distance_40 : decode cX11_distance 40 = .ok (.invokevirtual 167, 3) := by decide +kernel
theorem dX11_distance_43 : decode cX11_distance 43 = .ok (.iconst 0, 1) := by decide +kernel
theorem dX11_distance_44 : decode cX11_distance 44 = .ok (.istore 4, 2) := by decide +kernel
theorem dX11_distance_46 : decode cX11_distance 46 = .ok (.iload 4, 2) := by decide +kernel
theorem dX11_distance_48 : decode cX11_distance 48 = .ok (.aload_n 0, 1) := by decide +kernel
theorem dX11_distance_49 : decode cX11_distance 49 = .ok (.iload_n 2, 1) := by decide +kernel
theorem dX11_distance_50 : decode cX11_distance 50 = .ok (.invokevirtual 164, 3) := by decide +kernel
theorem dX11_distance_53 : decode cX11_distance 53 = .ok (.if_icmp .ge 103, 3) := by decide +kernel
theorem dX11_distance_56 : decode cX11_distance 56 = .ok (.aload_n 0, 1) := by decide +kernel
theorem dX11_distance_57 : decode cX11_distance 57 = .ok (.iload_n 2, 1) := by decide +kernel
theorem dX11_distance_58 : decode cX11_distance 58 = .ok (.iload 4, 2) := by decide +kernel
theorem dX11_distance_60 : decode cX11_distance 60 = .ok (.iconst 4, 1) := by decide +kernel
theorem dX11_distance_61 : decode cX11_distance 61 = .ok (.invokevirtual 167, 3) := by decide +kernel
theorem dX11_distance_64 : decode cX11_distance 64 = .ok (.aload_n 0, 1) := by decide +kernel
theorem dX11_distance_65 : decode cX11_distance 65 = .ok (.aload_n 0, 1) := by decide +kernel
theorem dX11_distance_66 : decode cX11_distance 66 = .ok (.getfield 83, 3) := by decide +kernel
theorem dX11_distance_69 : decode cX11_distance 69 = .ok (.aload_n 0, 1) := by decide +kernel
theorem dX11_distance_70 : decode cX11_distance 70 = .ok (.getfield 83, 3) := by decide +kernel
theorem dX11_distance_73 : decode cX11_distance 73 = .ok (.iconst 4, 1) := by decide +kernel
theorem dX11_distance_74 : decode cX11_distance 74 = .ok (.iaload, 1) := by decide +kernel
theorem dX11_distance_75 : decode cX11_distance 75 = .ok (.aload_n 0, 1) := by decide +kernel
theorem dX11_distance_76 : decode cX11_distance 76 = .ok (.getfield 83, 3) := by decide +kernel
theorem dX11_distance_79 : decode cX11_distance 79 = .ok (.iconst 5, 1) := by decide +kernel
theorem dX11_distance_80 : decode cX11_distance 80 = .ok (.iaload, 1) := by decide +kernel
theorem dX11_distance_81 : decode cX11_distance 81 = .ok (.iconst 0, 1) := by decide +kernel
theorem dX11_distance_82 : decode cX11_distance 82 = .ok (.invokevirtual 382, 3) := by decide +kernel
theorem dX11_distance_85 : decode cX11_distance 85 = .ok (.aload_n 0, 1) := by decide +kernel
theorem dX11_distance_86 : decode cX11_distance 86 = .ok (.aload_n 0, 1) := by decide +kernel
theorem dX11_distance_87 : decode cX11_distance 87 = .ok (.getfield 83, 3) := by decide +kernel
theorem dX11_distance_90 : decode cX11_distance 90 = .ok (.aload_n 0, 1) := by decide +kernel
theorem dX11_distance_91 : decode cX11_distance 91 = .ok (.getfield 83, 3) := by decide +kernel
theorem dX11_distance_94 : decode cX11_distance 94 = .ok (.bipush 6, 2) := by decide +kernel
theorem dX11_distance_96 : decode cX11_distance 96 = .ok (.iaload, 1) := by decide +kernel
theorem dX11_distance_97 : decode cX11_distance 97 = .ok (.aload_n 0, 1) := by decide +kernel
theorem dX11_distance_98 : decode cX11_distance 98 = .ok (.getfield 83, 3) := by decide +kernel
theorem dX11_distance_101 : decode cX11_distance 101 = .ok (.bipush 7, 2) := by decide +kernel
theorem dX11_distance_103 : decode cX11_distance 103 = .ok (.iaload, 1) := by decide +kernel
theorem dX11_distance_104 : decode cX11_distance 104 = .ok (.iconst 0, 1) := by decide +kernel
theorem dX11_distance_105 : decode cX11_distance 105 = .ok (.invokevirtual 382, 3) := by decide +kernel
theorem dX11_distance_108 : decode cX11_distance 108 = .ok (.aload_n 0, 1) := by decide +kernel
theorem dX11_distance_109 : decode cX11_distance 109 = .ok (.aload_n 0, 1) := by decide +kernel
theorem dX11_distance_110 : decode cX11_distance 110 = .ok (.getfield 83, 3) := by decide +kernel
theorem dX11_distance_113 : decode cX11_distance 113 = .ok (.aload_n 0, 1) := by decide +kernel
theorem dX11_distance_114 : decode cX11_distance 114 = .ok (.getfield 83, 3) := by decide +kernel
theorem dX11_distance_117 : decode cX11_distance 117 = .ok (.iconst 0, 1) := by decide +kernel
theorem dX11_distance_118 : decode cX11_distance 118 = .ok (.iaload, 1) := by decide +kernel
theorem dX11_distance_119 : decode cX11_distance 119 = .ok (.aload_n 0, 1) := by decide +kernel
theorem dX11_distance_120 : decode cX11_distance 120 = .ok (.getfield 83, 3) := by decide +kernel
theorem dX11_distance_123 : decode cX11_distance 123 = .ok (.iconst 1, 1) := by decide +kernel
theorem dX11_distance_124 : decode cX11_distance 124 = .ok (.iaload, 1) := by decide +kernel
theorem dX11_distance_125 : decode cX11_distance 125 = .ok (.iconst 4, 1) := by decide +kernel
theorem dX11_distance_126 : decode cX11_distance 126 = .ok (.invokevirtual 382, 3) := by decide +kernel
theorem dX11_distance_129 : decode cX11_distance 129 = .ok (.aload_n 0, 1) := by decide +kernel
theorem dX11_distance_130 : decode cX11_distance 130 = .ok (.aload_n 0, 1) := by decide +kernel
theorem dX11_distance_131 : decode cX11_distance 131 = .ok (.getfield 83, 3) := by decide +kernel
theorem dX11_distance_134 : decode cX11_distance 134 = .ok (.aload_n 0, 1) := by decide +kernel
theorem dX11_distance_135 : decode cX11_distance 135 = .ok (.getfield 83, 3) := by decide +kernel
theorem dX11_distance_138 : decode cX11_distance 138 = .ok (.iconst 2, 1) := by decide +kernel
theorem dX11_distance_139 : decode cX11_distance 139 = .ok (.iaload, 1) := by decide +kernel
theorem dX11_distance_140 : decode cX11_distance 140 = .ok (.aload_n 0, 1) := by decide +kernel
theorem dX11_distance_141 : decode cX11_distance 141 = .ok (.getfield 83, 3) := by decide +kernel
theorem dX11_distance_144 : decode cX11_distance 144 = .ok (.iconst 3, 1) := by decide +kernel
theorem dX11_distance_145 : decode cX11_distance 145 = .ok (.iaload, 1) := by decide +kernel
theorem dX11_distance_146 : decode cX11_distance 146 = .ok (.iconst 4, 1) := by decide +kernel
theorem dX11_distance_147 : decode cX11_distance 147 = .ok (.invokevirtual 382, 3) := by decide +kernel
theorem dX11_distance_150 : decode cX11_distance 150 = .ok (.iinc 4 1, 3) := by decide +kernel
theorem dX11_distance_153 : decode cX11_distance 153 = .ok (.goto (-107), 3) := by decide +kernel
theorem dX11_distance_156 : decode cX11_distance 156 = .ok (.iinc 3 1, 3) := by decide +kernel
theorem dX11_distance_159 : decode cX11_distance 159 = .ok (.goto (-132), 3) := by decide +kernel
theorem dX11_distance_162 : decode cX11_distance 162 = .ok (.aload_n 0, 1) := by decide +kernel
theorem dX11_distance_163 : decode cX11_distance 163 = .ok (.invokevirtual 386, 3) := by decide +kernel
theorem dX11_distance_166 : decode cX11_distance 166 = .ok (.return_, 1) := by decide +kernel
theorem dX11_join_0 : decode cX11_join 0 = .ok (.aload_n 0, 1) := by decide +kernel
theorem dX11_join_1 : decode cX11_join 1 = .ok (.iload_n 1, 1) := by decide +kernel
theorem dX11_join_2 : decode cX11_join 2 = .ok (.invokevirtual 133, 3) := by decide +kernel
theorem dX11_join_5 : decode cX11_join 5 = .ok (.ifCond .eq 11, 3) := by decide +kernel
theorem dX11_join_8 : decode cX11_join 8 = .ok (.aload_n 0, 1) := by decide +kernel
theorem dX11_join_9 : decode cX11_join 9 = .ok (.iload_n 2, 1) := by decide +kernel
theorem dX11_join_10 : decode cX11_join 10 = .ok (.invokevirtual 133, 3) := by decide +kernel
theorem dX11_join_13 : decode cX11_join 13 = .ok (.ifCond .ne 7, 3) := by decide +kernel
theorem dX11_join_16 : decode cX11_join 16 = .ok (.iconst 1, 1) := by decide +kernel
theorem dX11_join_17 : decode cX11_join 17 = .ok (.goto 28, 3) := by decide +kernel
theorem dX11_join_20 : decode cX11_join 20 = .ok (.aload_n 0, 1) := by decide +kernel
theorem dX11_join_21 : decode cX11_join 21 = .ok (.getfield 22, 3) := by decide +kernel
theorem dX11_join_24 : decode cX11_join 24 = .ok (.iload_n 1, 1) := by decide +kernel
theorem dX11_join_25 : decode cX11_join 25 = .ok (.iaload, 1) := by decide +kernel
theorem dX11_join_26 : decode cX11_join 26 = .ok (.iconst 1, 1) := by decide +kernel
theorem dX11_join_27 : decode cX11_join 27 = .ok (.if_icmp .ne 13, 3) := by decide +kernel
theorem dX11_join_30 : decode cX11_join 30 = .ok (.aload_n 0, 1) := by decide +kernel
theorem dX11_join_31 : decode cX11_join 31 = .ok (.getfield 22, 3) := by decide +kernel
theorem dX11_join_34 : decode cX11_join 34 = .ok (.iload_n 2, 1) := by decide +kernel
theorem dX11_join_35 : decode cX11_join 35 = .ok (.iaload, 1) := by decide +kernel
theorem dX11_join_36 : decode cX11_join 36 = .ok (.iconst 1, 1) := by decide +kernel
theorem dX11_join_37 : decode cX11_join 37 = .ok (.if_icmp .eq 7, 3) := by decide +kernel
theorem dX11_join_40 : decode cX11_join 40 = .ok (.iconst 2, 1) := by decide +kernel
theorem dX11_join_41 : decode cX11_join 41 = .ok (.goto 4, 3) := by decide +kernel
theorem dX11_join_44 : decode cX11_join 44 = .ok (.iconst 0, 1) := by decide +kernel
theorem dX11_join_45 : decode cX11_join 45 = .ok (.istore 4, 2) := by decide +kernel
theorem dX11_join_47 : decode cX11_join 47 = .ok (.iload 4, 2) := by decide +kernel
theorem dX11_join_49 : decode cX11_join 49 = .ok (.ifCond .le 8, 3) := by decide +kernel
theorem dX11_join_52 : decode cX11_join 52 = .ok (.iload 4, 2) := by decide +kernel
theorem dX11_join_54 : decode cX11_join 54 = .ok (.goto 67, 3) := by decide +kernel
theorem dX11_join_57 : decode cX11_join 57 = .ok (.aload_n 0, 1) := by decide +kernel
theorem dX11_join_58 : decode cX11_join 58 = .ok (.getfield 7, 3) := by decide +kernel
theorem dX11_join_61 : decode cX11_join 61 = .ok (.iload_n 1, 1) := by decide +kernel
theorem dX11_join_62 : decode cX11_join 62 = .ok (.iaload, 1) := by decide +kernel
theorem dX11_join_63 : decode cX11_join 63 = .ok (.bipush 6, 2) := by decide +kernel
theorem dX11_join_65 : decode cX11_join 65 = .ok (.if_icmp .ne 14, 3) := by decide +kernel
theorem dX11_join_68 : decode cX11_join 68 = .ok (.aload_n 0, 1) := by decide +kernel
theorem dX11_join_69 : decode cX11_join 69 = .ok (.getfield 7, 3) := by decide +kernel
theorem dX11_join_72 : decode cX11_join 72 = .ok (.iload_n 2, 1) := by decide +kernel
theorem dX11_join_73 : decode cX11_join 73 = .ok (.iaload, 1) := by decide +kernel
theorem dX11_join_74 : decode cX11_join 74 = .ok (.bipush 6, 2) := by decide +kernel
theorem dX11_join_76 : decode cX11_join 76 = .ok (.if_icmp .eq 7, 3) := by decide +kernel
theorem dX11_join_79 : decode cX11_join 79 = .ok (.iconst 3, 1) := by decide +kernel
theorem dX11_join_80 : decode cX11_join 80 = .ok (.goto 41, 3) := by decide +kernel
theorem dX11_join_83 : decode cX11_join 83 = .ok (.iload_n 3, 1) := by decide +kernel
theorem dX11_join_84 : decode cX11_join 84 = .ok (.ifCond .lt 10, 3) := by decide +kernel
theorem dX11_join_87 : decode cX11_join 87 = .ok (.iload_n 3, 1) := by decide +kernel
theorem dX11_join_88 : decode cX11_join 88 = .ok (.sipush 1000, 3) := by decide +kernel
theorem dX11_join_91 : decode cX11_join 91 = .ok (.if_icmp .le 7, 3) := by decide +kernel
theorem dX11_join_94 : decode cX11_join 94 = .ok (.iconst 4, 1) := by decide +kernel
theorem dX11_join_95 : decode cX11_join 95 = .ok (.goto 26, 3) := by decide +kernel
theorem dX11_join_98 : decode cX11_join 98 = .ok (.aload_n 0, 1) := by decide +kernel
theorem dX11_join_99 : decode cX11_join 99 = .ok (.getfield 25, 3) := by decide +kernel
theorem dX11_join_102 : decode cX11_join 102 = .ok (.iload_n 1, 1) := by decide +kernel
theorem dX11_join_103 : decode cX11_join 103 = .ok (.baload, 1) := by decide +kernel
theorem dX11_join_104 : decode cX11_join 104 = .ok (.ifCond .ne 12, 3) := by decide +kernel
theorem dX11_join_107 : decode cX11_join 107 = .ok (.aload_n 0, 1) := by decide +kernel
theorem dX11_join_108 : decode cX11_join 108 = .ok (.getfield 25, 3) := by decide +kernel
theorem dX11_join_111 : decode cX11_join 111 = .ok (.iload_n 2, 1) := by decide +kernel
theorem dX11_join_112 : decode cX11_join 112 = .ok (.baload, 1) := by decide +kernel
theorem dX11_join_113 : decode cX11_join 113 = .ok (.ifCond .eq 7, 3) := by decide +kernel
theorem dX11_join_116 : decode cX11_join 116 = .ok (.iconst 5, 1) := by decide +kernel
theorem dX11_join_117 : decode cX11_join 117 = .ok (.goto 4, 3) := by decide +kernel
theorem dX11_join_120 : decode cX11_join 120 = .ok (.iconst 0, 1) := by decide +kernel
theorem dX11_join_121 : decode cX11_join 121 = .ok (.istore 4, 2) := by decide +kernel
theorem dX11_join_123 : decode cX11_join 123 = .ok (.iload 4, 2) := by decide +kernel
theorem dX11_join_125 : decode cX11_join 125 = .ok (.ifCond .le 10, 3) := by decide +kernel
theorem dX11_join_128 : decode cX11_join 128 = .ok (.aload_n 0, 1) := by decide +kernel
theorem dX11_join_129 : decode cX11_join 129 = .ok (.iload 4, 2) := by decide +kernel
theorem dX11_join_131 : decode cX11_join 131 = .ok (.invokevirtual 126, 3) := by decide +kernel
theorem dX11_join_134 : decode cX11_join 134 = .ok (.ireturn, 1) := by decide +kernel
theorem dX11_join_135 : decode cX11_join 135 = .ok (.aload_n 0, 1) := by decide +kernel
theorem dX11_join_136 : decode cX11_join 136 = .ok (.iload_n 1, 1) := by decide +kernel
theorem dX11_join_137 : decode cX11_join 137 = .ok (.iload_n 2, 1) := by decide +kernel
theorem dX11_join_138 : decode cX11_join 138 = .ok (.invokevirtual 389, 3) := by decide +kernel
theorem dX11_join_141 : decode cX11_join 141 = .ok (.aload_n 0, 1) := by decide +kernel
theorem dX11_join_142 : decode cX11_join 142 = .ok (.getfield 375, 3) := by decide +kernel
theorem dX11_join_145 : decode cX11_join 145 = .ok (.iload_n 3, 1) := by decide +kernel
theorem dX11_join_146 : decode cX11_join 146 = .ok (.i2l, 1) := by decide +kernel
theorem dX11_join_147 : decode cX11_join 147 = .ok (.iload_n 3, 1) := by decide +kernel
theorem dX11_join_148 : decode cX11_join 148 = .ok (.i2l, 1) := by decide +kernel
theorem dX11_join_149 : decode cX11_join 149 = .ok (.lmul, 1) := by decide +kernel
theorem dX11_join_150 : decode cX11_join 150 = .ok (.aload_n 0, 1) := by decide +kernel
theorem dX11_join_151 : decode cX11_join 151 = .ok (.getfield 371, 3) := by decide +kernel
theorem dX11_join_154 : decode cX11_join 154 = .ok (.lmul, 1) := by decide +kernel
theorem dX11_join_155 : decode cX11_join 155 = .ok (.lcmp, 1) := by decide +kernel
theorem dX11_join_156 : decode cX11_join 156 = .ok (.ifCond .le 9, 3) := by decide +kernel
theorem dX11_join_159 : decode cX11_join 159 = .ok (.aload_n 0, 1) := by decide +kernel
theorem dX11_join_160 : decode cX11_join 160 = .ok (.iconst 4, 1) := by decide +kernel
theorem dX11_join_161 : decode cX11_join 161 = .ok (.invokevirtual 126, 3) := by decide +kernel
theorem dX11_join_164 : decode cX11_join 164 = .ok (.ireturn, 1) := by decide +kernel
theorem dX11_join_165 : decode cX11_join 165 = .ok (.aload_n 0, 1) := by decide +kernel
theorem dX11_join_166 : decode cX11_join 166 = .ok (.iload_n 1, 1) := by decide +kernel
theorem dX11_join_167 : decode cX11_join 167 = .ok (.iconst 1, 1) := by decide +kernel
theorem dX11_join_168 : decode cX11_join 168 = .ok (.invokevirtual 358, 3) := by decide +kernel
theorem dX11_join_171 : decode cX11_join 171 = .ok (.aload_n 0, 1) := by decide +kernel
theorem dX11_join_172 : decode cX11_join 172 = .ok (.iload_n 2, 1) := by decide +kernel
theorem dX11_join_173 : decode cX11_join 173 = .ok (.iconst 0, 1) := by decide +kernel
theorem dX11_join_174 : decode cX11_join 174 = .ok (.invokevirtual 358, 3) := by decide +kernel
theorem dX11_join_177 : decode cX11_join 177 = .ok (.aload_n 0, 1) := by decide +kernel
theorem dX11_join_178 : decode cX11_join 178 = .ok (.getfield 130, 3) := by decide +kernel
theorem dX11_join_181 : decode cX11_join 181 = .ok (.istore 5, 2) := by decide +kernel
theorem dX11_join_183 : decode cX11_join 183 = .ok (.aload_n 0, 1) := by decide +kernel
theorem dX11_join_184 : decode cX11_join 184 = .ok (.sipush 200, 3) := by decide +kernel
theorem dX11_join_187 : decode cX11_join 187 = .ok (.invokevirtual 368, 3) := by decide +kernel
theorem dX11_join_190 : decode cX11_join 190 = .ok (.iconst 1, 1) := by decide +kernel
theorem dX11_join_191 : decode cX11_join 191 = .ok (.istore 6, 2) := by decide +kernel
theorem dX11_join_193 : decode cX11_join 193 = .ok (.iconst 0, 1) := by decide +kernel
theorem dX11_join_194 : decode cX11_join 194 = .ok (.istore 7, 2) := by decide +kernel
theorem dX11_join_196 : decode cX11_join 196 = .ok (.iload 7, 2) := by decide +kernel
theorem dX11_join_198 : decode cX11_join 198 = .ok (.iload 5, 2) := by decide +kernel
theorem dX11_join_200 : decode cX11_join 200 = .ok (.if_icmp .ge 75, 3) := by decide +kernel
theorem dX11_join_203 : decode cX11_join 203 = .ok (.iload 7, 2) := by decide +kernel
theorem dX11_join_205 : decode cX11_join 205 = .ok (.iload_n 1, 1) := by decide +kernel
theorem dX11_join_206 : decode cX11_join 206 = .ok (.if_icmp .eq 63, 3) := by decide +kernel
theorem dX11_join_209 : decode cX11_join 209 = .ok (.iload 7, 2) := by decide +kernel
theorem dX11_join_211 : decode cX11_join 211 = .ok (.iload_n 2, 1) := by decide +kernel
theorem dX11_join_212 : decode cX11_join 212 = .ok (.if_icmp .eq 57, 3) := by decide +kernel
theorem dX11_join_215 : decode cX11_join 215 = .ok (.aload_n 0, 1) := by decide +kernel
theorem dX11_join_216 : decode cX11_join 216 = .ok (.iload 7, 2) := by decide +kernel
theorem dX11_join_218 : decode cX11_join 218 = .ok (.invokevirtual 197, 3) := by decide +kernel
theorem dX11_join_221 : decode cX11_join 221 = .ok (.ifCond .eq 48, 3) := by decide +kernel
theorem dX11_join_224 : decode cX11_join 224 = .ok (.aload_n 0, 1) := by decide +kernel
theorem dX11_join_225 : decode cX11_join 225 = .ok (.sipush 200, 3) := by decide +kernel
theorem dX11_join_228 : decode cX11_join 228 = .ok (.iload 7, 2) := by decide +kernel
theorem dX11_join_230 : decode cX11_join 230 = .ok (.invokevirtual 200, 3) := by decide +kernel
theorem dX11_join_233 : decode cX11_join 233 = .ok (.ifCond .ne 33, 3) := by decide +kernel
theorem dX11_join_236 : decode cX11_join 236 = .ok (.aload_n 0, 1) := by decide +kernel
theorem dX11_join_237 : decode cX11_join 237 = .ok (.sipush 200, 3) := by decide +kernel
theorem dX11_join_240 : decode cX11_join 240 = .ok (.aload_n 0, 1) := by decide +kernel
theorem dX11_join_241 : decode cX11_join 241 = .ok (.getfield 44, 3) := by decide +kernel
theorem dX11_join_244 : decode cX11_join 244 = .ok (.bipush 40, 2) := by decide +kernel
theorem dX11_join_246 : decode cX11_join 246 = .ok (.iload 7, 2) := by decide +kernel
theorem dX11_join_248 : decode cX11_join 248 = .ok (.imul, 1) := by decide +kernel
theorem dX11_join_249 : decode cX11_join 249 = .ok (.iaload, 1) := by decide +kernel
theorem dX11_join_250 : decode cX11_join 250 = .ok (.aload_n 0, 1) := by decide +kernel
theorem dX11_join_251 : decode cX11_join 251 = .ok (.getfield 47, 3) := by decide +kernel
theorem dX11_join_254 : decode cX11_join 254 = .ok (.bipush 40, 2) := by decide +kernel
theorem dX11_join_256 : decode cX11_join 256 = .ok (.iload 7, 2) := by decide +kernel
theorem dX11_join_258 : decode cX11_join 258 = .ok (.imul, 1) := by decide +kernel
theorem dX11_join_259 : decode cX11_join 259 = .ok (.iaload, 1) := by decide +kernel
theorem dX11_join_260 : decode cX11_join 260 = .ok (.invokevirtual 204, 3) := by decide +kernel
theorem dX11_join_263 : decode cX11_join 263 = .ok (.ifCond .eq 6, 3) := by decide +kernel
theorem dX11_join_266 : decode cX11_join 266 = .ok (.iconst 0, 1) := by decide +kernel
theorem dX11_join_267 : decode cX11_join 267 = .ok (.istore 6, 2) := by decide +kernel
theorem dX11_join_269 : decode cX11_join 269 = .ok (.iinc 7 1, 3) := by decide +kernel
theorem dX11_join_272 : decode cX11_join 272 = .ok (.goto (-76), 3) := by decide +kernel
theorem dX11_join_275 : decode cX11_join 275 = .ok (.iload 6, 2) := by decide +kernel
theorem dX11_join_277 : decode cX11_join 277 = .ok (.ifCond .ne 10, 3) := by decide +kernel
theorem dX11_join_280 : decode cX11_join 280 = .ok (.aload_n 0, 1) := by decide +kernel
theorem dX11_join_281 : decode cX11_join 281 = .ok (.bipush 7, 2) := by decide +kernel
theorem dX11_join_283 : decode cX11_join 283 = .ok (.invokevirtual 126, 3) := by decide +kernel
theorem dX11_join_286 : decode cX11_join 286 = .ok (.ireturn, 1) := by decide +kernel
theorem dX11_join_287 : decode cX11_join 287 = .ok (.iload_n 1, 1) := by decide +kernel
theorem dX11_join_288 : decode cX11_join 288 = .ok (.iload_n 2, 1) := by decide +kernel
theorem dX11_join_289 : decode cX11_join 289 = .ok (.if_icmp .eq 13, 3) := by decide +kernel
theorem dX11_join_292 : decode cX11_join 292 = .ok (.aload_n 0, 1) := by decide +kernel
theorem dX11_join_293 : decode cX11_join 293 = .ok (.getfield 130, 3) := by decide +kernel
theorem dX11_join_296 : decode cX11_join 296 = .ok (.sipush 200, 3) := by decide +kernel
theorem dX11_join_299 : decode cX11_join 299 = .ok (.if_icmp .ne 10, 3) := by decide +kernel
theorem dX11_join_302 : decode cX11_join 302 = .ok (.aload_n 0, 1) := by decide +kernel
theorem dX11_join_303 : decode cX11_join 303 = .ok (.bipush 8, 2) := by decide +kernel
theorem dX11_join_305 : decode cX11_join 305 = .ok (.invokevirtual 126, 3) := by decide +kernel
theorem dX11_join_308 : decode cX11_join 308 = .ok (.ireturn, 1) := by decide +kernel
theorem dX11_join_309 : decode cX11_join 309 = .ok (.aload_n 0, 1) := by decide +kernel
theorem dX11_join_310 : decode cX11_join 310 = .ok (.invokevirtual 322, 3) := by decide +kernel
theorem dX11_join_313 : decode cX11_join 313 = .ok (.aload_n 0, 1) := by decide +kernel
theorem dX11_join_314 : decode cX11_join 314 = .ok (.getfield 130, 3) := by decide +kernel
theorem dX11_join_317 : decode cX11_join 317 = .ok (.istore 7, 2) := by decide +kernel
theorem dX11_join_319 : decode cX11_join 319 = .ok (.aload_n 0, 1) := by decide +kernel
theorem dX11_join_320 : decode cX11_join 320 = .ok (.iload 7, 2) := by decide +kernel
theorem dX11_join_322 : decode cX11_join 322 = .ok (.bipush 6, 2) := by decide +kernel
theorem dX11_join_324 : decode cX11_join 324 = .ok (.aload_n 0, 1) := by decide +kernel
theorem dX11_join_325 : decode cX11_join 325 = .ok (.getfield 13, 3) := by decide +kernel
theorem dX11_join_328 : decode cX11_join 328 = .ok (.iload_n 1, 1) := by decide +kernel
theorem dX11_join_329 : decode cX11_join 329 = .ok (.iaload, 1) := by decide +kernel
theorem dX11_join_330 : decode cX11_join 330 = .ok (.aload_n 0, 1) := by decide +kernel
theorem dX11_join_331 : decode cX11_join 331 = .ok (.getfield 16, 3) := by decide +kernel
theorem dX11_join_334 : decode cX11_join 334 = .ok (.iload_n 1, 1) := by decide +kernel
theorem dX11_join_335 : decode cX11_join 335 = .ok (.iaload, 1) := by decide +kernel
theorem dX11_join_336 : decode cX11_join 336 = .ok (.aload_n 0, 1) := by decide +kernel
theorem dX11_join_337 : decode cX11_join 337 = .ok (.getfield 19, 3) := by decide +kernel
theorem dX11_join_340 : decode cX11_join 340 = .ok (.iload_n 1, 1) := by decide +kernel
theorem dX11_join_341 : decode cX11_join 341 = .ok (.iaload, 1) := by decide +kernel
theorem dX11_join_342 : decode cX11_join 342 = .ok (.invokevirtual 269, 3) := by decide +kernel
theorem dX11_join_345 : decode cX11_join 345 = .ok (.aload_n 0, 1) := by decide +kernel
theorem dX11_join_346 : decode cX11_join 346 = .ok (.iload 7, 2) := by decide +kernel
theorem dX11_join_348 : decode cX11_join 348 = .ok (.invokevirtual 368, 3) := by decide +kernel
theorem dX11_join_351 : decode cX11_join 351 = .ok (.aload_n 0, 1) := by decide +kernel
theorem dX11_join_352 : decode cX11_join 352 = .ok (.getfield 22, 3) := by decide +kernel
theorem dX11_join_355 : decode cX11_join 355 = .ok (.iload 7, 2) := by decide +kernel
theorem dX11_join_357 : decode cX11_join 357 = .ok (.iconst 1, 1) := by decide +kernel
theorem dX11_join_358 : decode cX11_join 358 = .ok (.iastore, 1) := by decide +kernel
theorem dX11_join_359 : decode cX11_join 359 = .ok (.aload_n 0, 1) := by decide +kernel
theorem dX11_join_360 : decode cX11_join 360 = .ok (.getfield 32, 3) := by decide +kernel
theorem dX11_join_363 : decode cX11_join 363 = .ok (.iload 7, 2) := by decide +kernel
theorem dX11_join_365 : decode cX11_join 365 = .ok (.iload_n 1, 1) := by decide +kernel
theorem dX11_join_366 : decode cX11_join 366 = .ok (.iastore, 1) := by decide +kernel
theorem dX11_join_367 : decode cX11_join 367 = .ok (.aload_n 0, 1) := by decide +kernel
theorem dX11_join_368 : decode cX11_join 368 = .ok (.getfield 35, 3) := by decide +kernel
theorem dX11_join_371 : decode cX11_join 371 = .ok (.iload 7, 2) := by decide +kernel
theorem dX11_join_373 : decode cX11_join 373 = .ok (.iload_n 2, 1) := by decide +kernel
theorem dX11_join_374 : decode cX11_join 374 = .ok (.iastore, 1) := by decide +kernel
theorem dX11_join_375 : decode cX11_join 375 = .ok (.aload_n 0, 1) := by decide +kernel
theorem dX11_join_376 : decode cX11_join 376 = .ok (.iload_n 1, 1) := by decide +kernel
theorem dX11_join_377 : decode cX11_join 377 = .ok (.iload 7, 2) := by decide +kernel
theorem dX11_join_379 : decode cX11_join 379 = .ok (.invokevirtual 393, 3) := by decide +kernel
theorem dX11_join_382 : decode cX11_join 382 = .ok (.aload_n 0, 1) := by decide +kernel
theorem dX11_join_383 : decode cX11_join 383 = .ok (.iload_n 2, 1) := by decide +kernel
theorem dX11_join_384 : decode cX11_join 384 = .ok (.iload 7, 2) := by decide +kernel
theorem dX11_join_386 : decode cX11_join 386 = .ok (.invokevirtual 393, 3) := by decide +kernel
theorem dX11_join_389 : decode cX11_join 389 = .ok (.aload_n 0, 1) := by decide +kernel
theorem dX11_join_390 : decode cX11_join 390 = .ok (.aload_n 0, 1) := by decide +kernel
theorem dX11_join_391 : decode cX11_join 391 = .ok (.getfield 279, 3) := by decide +kernel
theorem dX11_join_394 : decode cX11_join 394 = .ok (.invokevirtual 328, 3) := by decide +kernel
theorem dX11_join_397 : decode cX11_join 397 = .ok (.aload_n 0, 1) := by decide +kernel
theorem dX11_join_398 : decode cX11_join 398 = .ok (.bipush 6, 2) := by decide +kernel
theorem dX11_join_400 : decode cX11_join 400 = .ok (.iload_n 1, 1) := by decide +kernel
theorem dX11_join_401 : decode cX11_join 401 = .ok (.iconst 2, 1) := by decide +kernel
theorem dX11_join_402 : decode cX11_join 402 = .ok (.invokevirtual 331, 3) := by decide +kernel
theorem dX11_join_405 : decode cX11_join 405 = .ok (.istore 8, 2) := by decide +kernel
theorem dX11_join_407 : decode cX11_join 407 = .ok (.iload 7, 2) := by decide +kernel
theorem dX11_join_409 : decode cX11_join 409 = .ok (.ireturn, 1) := by decide +kernel
theorem dX11_gone_0 : decode cX11_gone 0 = .ok (.aload_n 0, 1) := by decide +kernel
theorem dX11_gone_1 : decode cX11_gone 1 = .ok (.getfield 22, 3) := by decide +kernel
theorem dX11_gone_4 : decode cX11_gone 4 = .ok (.iload_n 1, 1) := by decide +kernel
theorem dX11_gone_5 : decode cX11_gone 5 = .ok (.iconst 2, 1) := by decide +kernel
theorem dX11_gone_6 : decode cX11_gone 6 = .ok (.iastore, 1) := by decide +kernel
theorem dX11_gone_7 : decode cX11_gone 7 = .ok (.aload_n 0, 1) := by decide +kernel
theorem dX11_gone_8 : decode cX11_gone 8 = .ok (.getfield 29, 3) := by decide +kernel
theorem dX11_gone_11 : decode cX11_gone 11 = .ok (.iload_n 1, 1) := by decide +kernel
theorem dX11_gone_12 : decode cX11_gone 12 = .ok (.aload_n 0, 1) := by decide +kernel
theorem dX11_gone_13 : decode cX11_gone 13 = .ok (.getfield 257, 3) := by decide +kernel
theorem dX11_gone_16 : decode cX11_gone 16 = .ok (.iconst 1, 1) := by decide +kernel
theorem dX11_gone_17 : decode cX11_gone 17 = .ok (.iadd, 1) := by decide +kernel
theorem dX11_gone_18 : decode cX11_gone 18 = .ok (.iastore, 1) := by decide +kernel
theorem dX11_gone_19 : decode cX11_gone 19 = .ok (.aload_n 0, 1) := by decide +kernel
theorem dX11_gone_20 : decode cX11_gone 20 = .ok (.getfield 38, 3) := by decide +kernel
theorem dX11_gone_23 : decode cX11_gone 23 = .ok (.iload_n 1, 1) := by decide +kernel
theorem dX11_gone_24 : decode cX11_gone 24 = .ok (.iload_n 2, 1) := by decide +kernel
theorem dX11_gone_25 : decode cX11_gone 25 = .ok (.iastore, 1) := by decide +kernel
theorem dX11_gone_26 : decode cX11_gone 26 = .ok (.return_, 1) := by decide +kernel
theorem dX11_drop_0 : decode cX11_drop 0 = .ok (.aload_n 0, 1) := by decide +kernel
theorem dX11_drop_1 : decode cX11_drop 1 = .ok (.iload_n 1, 1) := by decide +kernel
theorem dX11_drop_2 : decode cX11_drop 2 = .ok (.invokevirtual 312, 3) := by decide +kernel
theorem dX11_drop_5 : decode cX11_drop 5 = .ok (.istore_n 2, 1) := by decide +kernel
theorem dX11_drop_6 : decode cX11_drop 6 = .ok (.iload_n 2, 1) := by decide +kernel
theorem dX11_drop_7 : decode cX11_drop 7 = .ok (.ifCond .le 7, 3) := by decide +kernel
theorem dX11_drop_10 : decode cX11_drop 10 = .ok (.iload_n 2, 1) := by decide +kernel
theorem dX11_drop_11 : decode cX11_drop 11 = .ok (.goto 17, 3) := by decide +kernel
theorem dX11_drop_14 : decode cX11_drop 14 = .ok (.aload_n 0, 1) := by decide +kernel
theorem dX11_drop_15 : decode cX11_drop 15 = .ok (.getfield 25, 3) := by decide +kernel
theorem dX11_drop_18 : decode cX11_drop 18 = .ok (.iload_n 1, 1) := by decide +kernel
theorem dX11_drop_19 : decode cX11_drop 19 = .ok (.baload, 1) := by decide +kernel
theorem dX11_drop_20 : decode cX11_drop 20 = .ok (.ifCond .eq 7, 3) := by decide +kernel
theorem dX11_drop_23 : decode cX11_drop 23 = .ok (.iconst 5, 1) := by decide +kernel
theorem dX11_drop_24 : decode cX11_drop 24 = .ok (.goto 4, 3) := by decide +kernel
theorem dX11_drop_27 : decode cX11_drop 27 = .ok (.iconst 0, 1) := by decide +kernel
theorem dX11_drop_28 : decode cX11_drop 28 = .ok (.istore_n 2, 1) := by decide +kernel
theorem dX11_drop_29 : decode cX11_drop 29 = .ok (.iload_n 2, 1) := by decide +kernel
theorem dX11_drop_30 : decode cX11_drop 30 = .ok (.ifCond .le 9, 3) := by decide +kernel
theorem dX11_drop_33 : decode cX11_drop 33 = .ok (.aload_n 0, 1) := by decide +kernel
theorem dX11_drop_34 : decode cX11_drop 34 = .ok (.iload_n 2, 1) := by decide +kernel
theorem dX11_drop_35 : decode cX11_drop 35 = .ok (.invokevirtual 276, 3) := by decide +kernel
theorem dX11_drop_38 : decode cX11_drop 38 = .ok (.ireturn, 1) := by decide +kernel
theorem dX11_drop_39 : decode cX11_drop 39 = .ok (.aload_n 0, 1) := by decide +kernel
theorem dX11_drop_40 : decode cX11_drop 40 = .ok (.invokevirtual 322, 3) := by decide +kernel
theorem dX11_drop_43 : decode cX11_drop 43 = .ok (.aload_n 0, 1) := by decide +kernel
theorem dX11_drop_44 : decode cX11_drop 44 = .ok (.iload_n 1, 1) := by decide +kernel
theorem dX11_drop_45 : decode cX11_drop 45 = .ok (.iconst (-1), 1) := by decide +kernel
theorem dX11_drop_46 : decode cX11_drop 46 = .ok (.invokevirtual 393, 3) := by decide +kernel
theorem dX11_drop_49 : decode cX11_drop 49 = .ok (.aload_n 0, 1) := by decide +kernel
theorem dX11_drop_50 : decode cX11_drop 50 = .ok (.aload_n 0, 1) := by decide +kernel
theorem dX11_drop_51 : decode cX11_drop 51 = .ok (.getfield 279, 3) := by decide +kernel
theorem dX11_drop_54 : decode cX11_drop 54 = .ok (.invokevirtual 328, 3) := by decide +kernel
theorem dX11_drop_57 : decode cX11_drop 57 = .ok (.aload_n 0, 1) := by decide +kernel
theorem dX11_drop_58 : decode cX11_drop 58 = .ok (.bipush 7, 2) := by decide +kernel
theorem dX11_drop_60 : decode cX11_drop 60 = .ok (.iload_n 1, 1) := by decide +kernel
theorem dX11_drop_61 : decode cX11_drop 61 = .ok (.iconst 1, 1) := by decide +kernel
theorem dX11_drop_62 : decode cX11_drop 62 = .ok (.invokevirtual 331, 3) := by decide +kernel
theorem dX11_drop_65 : decode cX11_drop 65 = .ok (.istore_n 3, 1) := by decide +kernel
theorem dX11_drop_66 : decode cX11_drop 66 = .ok (.iconst 1, 1) := by decide +kernel
theorem dX11_drop_67 : decode cX11_drop 67 = .ok (.ireturn, 1) := by decide +kernel
theorem dX11_dropMarked_0 : decode cX11_dropMarked 0 = .ok (.iconst 0, 1) := by decide +kernel
theorem dX11_dropMarked_1 : decode cX11_dropMarked 1 = .ok (.istore_n 2, 1) := by decide +kernel
theorem dX11_dropMarked_2 : decode cX11_dropMarked 2 = .ok (.iconst 0, 1) := by decide +kernel
theorem dX11_dropMarked_3 : decode cX11_dropMarked 3 = .ok (.istore_n 3, 1) := by decide +kernel
theorem dX11_dropMarked_4 : decode cX11_dropMarked 4 = .ok (.iload_n 3, 1) := by decide +kernel
theorem dX11_dropMarked_5 : decode cX11_dropMarked 5 = .ok (.aload_n 0, 1) := by decide +kernel
theorem dX11_dropMarked_6 : decode cX11_dropMarked 6 = .ok (.getfield 130, 3) := by decide +kernel
theorem dX11_dropMarked_9 : decode cX11_dropMarked 9 = .ok (.if_icmp .ge 26, 3) := by decide +kernel
theorem dX11_dropMarked_12 : decode cX11_dropMarked 12 = .ok (.iload_n 2, 1) := by decide +kernel
theorem dX11_dropMarked_13 : decode cX11_dropMarked 13 = .ok (.aload_n 0, 1) := by decide +kernel
theorem dX11_dropMarked_14 : decode cX11_dropMarked 14 = .ok (.getfield 107, 3) := by decide +kernel
theorem dX11_dropMarked_17 : decode cX11_dropMarked 17 = .ok (.iload_n 3, 1) := by decide +kernel
theorem dX11_dropMarked_18 : decode cX11_dropMarked 18 = .ok (.baload, 1) := by decide +kernel
theorem dX11_dropMarked_19 : decode cX11_dropMarked 19 = .ok (.ifCond .eq 7, 3) := by decide +kernel
theorem dX11_dropMarked_22 : decode cX11_dropMarked 22 = .ok (.iconst 1, 1) := by decide +kernel
theorem dX11_dropMarked_23 : decode cX11_dropMarked 23 = .ok (.goto 4, 3) := by decide +kernel
theorem dX11_dropMarked_26 : decode cX11_dropMarked 26 = .ok (.iconst 0, 1) := by decide +kernel
theorem dX11_dropMarked_27 : decode cX11_dropMarked 27 = .ok (.iadd, 1) := by decide +kernel
theorem dX11_dropMarked_28 : decode cX11_dropMarked 28 = .ok (.istore_n 2, 1) := by decide +kernel
theorem dX11_dropMarked_29 : decode cX11_dropMarked 29 = .ok (.iinc 3 1, 3) := by decide +kernel
theorem dX11_dropMarked_32 : decode cX11_dropMarked 32 = .ok (.goto (-28), 3) := by decide +kernel
theorem dX11_dropMarked_35 : decode cX11_dropMarked 35 = .ok (.iload_n 2, 1) := by decide +kernel
theorem dX11_dropMarked_36 : decode cX11_dropMarked 36 = .ok (.ifCond .ne 10, 3) := by decide +kernel
theorem dX11_dropMarked_39 : decode cX11_dropMarked 39 = .ok (.aload_n 0, 1) := by decide +kernel
theorem dX11_dropMarked_40 : decode cX11_dropMarked 40 = .ok (.bipush 8, 2) := by decide +kernel
theorem dX11_dropMarked_42 : decode cX11_dropMarked 42 = .ok (.invokevirtual 126, 3) := by decide +kernel
theorem dX11_dropMarked_45 : decode cX11_dropMarked 45 = .ok (.ireturn, 1) := by decide +kernel
theorem dX11_dropMarked_46 : decode cX11_dropMarked 46 = .ok (.aload_n 0, 1) := by decide +kernel
theorem dX11_dropMarked_47 : decode cX11_dropMarked 47 = .ok (.invokevirtual 322, 3) := by decide +kernel
theorem dX11_dropMarked_50 : decode cX11_dropMarked 50 = .ok (.iconst 0, 1) := by decide +kernel
theorem dX11_dropMarked_51 : decode cX11_dropMarked 51 = .ok (.istore_n 3, 1) := by decide +kernel
theorem dX11_dropMarked_52 : decode cX11_dropMarked 52 = .ok (.iload_n 3, 1) := by decide +kernel
theorem dX11_dropMarked_53 : decode cX11_dropMarked 53 = .ok (.aload_n 0, 1) := by decide +kernel
theorem dX11_dropMarked_54 : decode cX11_dropMarked 54 = .ok (.getfield 130, 3) := by decide +kernel
theorem dX11_dropMarked_57 : decode cX11_dropMarked 57 = .ok (.if_icmp .ge 24, 3) := by decide +kernel
theorem dX11_dropMarked_60 : decode cX11_dropMarked 60 = .ok (.aload_n 0, 1) := by decide +kernel
theorem dX11_dropMarked_61 : decode cX11_dropMarked 61 = .ok (.getfield 107, 3) := by decide +kernel
theorem dX11_dropMarked_64 : decode cX11_dropMarked 64 = .ok (.iload_n 3, 1) := by decide +kernel
theorem dX11_dropMarked_65 : decode cX11_dropMarked 65 = .ok (.baload, 1) := by decide +kernel
theorem dX11_dropMarked_66 : decode cX11_dropMarked 66 = .ok (.ifCond .eq 9, 3) := by decide +kernel
theorem dX11_dropMarked_69 : decode cX11_dropMarked 69 = .ok (.aload_n 0, 1) := by decide +kernel
theorem dX11_dropMarked_70 : decode cX11_dropMarked 70 = .ok (.iload_n 3, 1) := by decide +kernel
theorem dX11_dropMarked_71 : decode cX11_dropMarked 71 = .ok (.iconst (-1), 1) := by decide +kernel
theorem dX11_dropMarked_72 : decode cX11_dropMarked 72 = .ok (.invokevirtual 393, 3) := by decide +kernel
theorem dX11_dropMarked_75 : decode cX11_dropMarked 75 = .ok (.iinc 3 1, 3) := by decide +kernel
theorem dX11_dropMarked_78 : decode cX11_dropMarked 78 = .ok (.goto (-26), 3) := by decide +kernel
theorem dX11_dropMarked_81 : decode cX11_dropMarked 81 = .ok (.aload_n 0, 1) := by decide +kernel
theorem dX11_dropMarked_82 : decode cX11_dropMarked 82 = .ok (.aload_n 0, 1) := by decide +kernel
theorem dX11_dropMarked_83 : decode cX11_dropMarked 83 = .ok (.getfield 279, 3) := by decide +kernel
theorem dX11_dropMarked_86 : decode cX11_dropMarked 86 = .ok (.invokevirtual 328, 3) := by decide +kernel
theorem dX11_dropMarked_89 : decode cX11_dropMarked 89 = .ok (.aload_n 0, 1) := by decide +kernel
theorem dX11_dropMarked_90 : decode cX11_dropMarked 90 = .ok (.iload_n 1, 1) := by decide +kernel
theorem dX11_dropMarked_91 : decode cX11_dropMarked 91 = .ok (.iconst (-1), 1) := by decide +kernel
theorem dX11_dropMarked_92 : decode cX11_dropMarked 92 = .ok (.iload_n 2, 1) := by decide +kernel
theorem dX11_dropMarked_93 : decode cX11_dropMarked 93 = .ok (.invokevirtual 331, 3) := by decide +kernel
theorem dX11_dropMarked_96 : decode cX11_dropMarked 96 = .ok (.istore_n 3, 1) := by decide +kernel
theorem dX11_dropMarked_97 : decode cX11_dropMarked 97 = .ok (.iload_n 2, 1) := by decide +kernel
theorem dX11_dropMarked_98 : decode cX11_dropMarked 98 = .ok (.ireturn, 1) := by decide +kernel
theorem dX11_isSmall_0 : decode cX11_isSmall 0 = .ok (.aload_n 0, 1) := by decide +kernel
theorem dX11_isSmall_1 : decode cX11_isSmall 1 = .ok (.iload_n 1, 1) := by decide +kernel
theorem dX11_isSmall_2 : decode cX11_isSmall 2 = .ok (.invokevirtual 197, 3) := by decide +kernel
theorem dX11_isSmall_5 : decode cX11_isSmall 5 = .ok (.ifCond .eq 29, 3) := by decide +kernel
theorem dX11_isSmall_8 : decode cX11_isSmall 8 = .ok (.aload_n 0, 1) := by decide +kernel
theorem dX11_isSmall_9 : decode cX11_isSmall 9 = .ok (.getfield 7, 3) := by decide +kernel
theorem dX11_isSmall_12 : decode cX11_isSmall 12 = .ok (.iload_n 1, 1) := by decide +kernel
theorem dX11_isSmall_13 : decode cX11_isSmall 13 = .ok (.iaload, 1) := by decide +kernel
theorem dX11_isSmall_14 : decode cX11_isSmall 14 = .ok (.bipush 6, 2) := by decide +kernel
theorem dX11_isSmall_16 : decode cX11_isSmall 16 = .ok (.if_icmp .ne 18, 3) := by decide +kernel
theorem dX11_isSmall_19 : decode cX11_isSmall 19 = .ok (.aload_n 0, 1) := by decide +kernel
theorem dX11_isSmall_20 : decode cX11_isSmall 20 = .ok (.iload_n 1, 1) := by decide +kernel
theorem dX11_isSmall_21 : decode cX11_isSmall 21 = .ok (.invokevirtual 364, 3) := by decide +kernel
theorem dX11_isSmall_24 : decode cX11_isSmall 24 = .ok (.iload_n 2, 1) := by decide +kernel
theorem dX11_isSmall_25 : decode cX11_isSmall 25 = .ok (.i2l, 1) := by decide +kernel
theorem dX11_isSmall_26 : decode cX11_isSmall 26 = .ok (.lcmp, 1) := by decide +kernel
theorem dX11_isSmall_27 : decode cX11_isSmall 27 = .ok (.ifCond .ge 7, 3) := by decide +kernel
theorem dX11_isSmall_30 : decode cX11_isSmall 30 = .ok (.iconst 1, 1) := by decide +kernel
theorem dX11_isSmall_31 : decode cX11_isSmall 31 = .ok (.goto 4, 3) := by decide +kernel
theorem dX11_isSmall_34 : decode cX11_isSmall 34 = .ok (.iconst 0, 1) := by decide +kernel
theorem dX11_isSmall_35 : decode cX11_isSmall 35 = .ok (.ireturn, 1) := by decide +kernel
theorem dX11_few_0 : decode cX11_few 0 = .ok (.iload_n 1, 1) := by decide +kernel
theorem dX11_few_1 : decode cX11_few 1 = .ok (.ifCond .lt 14, 3) := by decide +kernel
theorem dX11_few_4 : decode cX11_few 4 = .ok (.iload_n 2, 1) := by decide +kernel
theorem dX11_few_5 : decode cX11_few 5 = .ok (.ifCond .lt 10, 3) := by decide +kernel
theorem dX11_few_8 : decode cX11_few 8 = .ok (.iload_n 2, 1) := by decide +kernel
theorem dX11_few_9 : decode cX11_few 9 = .ok (.sipush 200, 3) := by decide +kernel
theorem dX11_few_12 : decode cX11_few 12 = .ok (.if_icmp .le 9, 3) := by decide +kernel
theorem dX11_few_15 : decode cX11_few 15 = .ok (.aload_n 0, 1) := by decide +kernel
theorem dX11_few_16 : decode cX11_few 16 = .ok (.iconst 4, 1) := by decide +kernel
theorem dX11_few_17 : decode cX11_few 17 = .ok (.invokevirtual 126, 3) := by decide +kernel
theorem dX11_few_20 : decode cX11_few 20 = .ok (.ireturn, 1) := by decide +kernel
theorem dX11_few_21 : decode cX11_few 21 = .ok (.iconst 0, 1) := by decide +kernel
theorem dX11_few_22 : decode cX11_few 22 = .ok (.istore_n 3, 1) := by decide +kernel
theorem dX11_few_23 : decode cX11_few 23 = .ok (.iload_n 3, 1) := by decide +kernel
theorem dX11_few_24 : decode cX11_few 24 = .ok (.aload_n 0, 1) := by decide +kernel
theorem dX11_few_25 : decode cX11_few 25 = .ok (.getfield 130, 3) := by decide +kernel
theorem dX11_few_28 : decode cX11_few 28 = .ok (.if_icmp .ge 175, 3) := by decide +kernel
theorem dX11_few_31 : decode cX11_few 31 = .ok (.iconst 0, 1) := by decide +kernel
theorem dX11_few_32 : decode cX11_few 32 = .ok (.istore 4, 2) := by decide +kernel
theorem dX11_few_34 : decode cX11_few 34 = .ok (.iconst 0, 1) := by decide +kernel
theorem dX11_few_35 : decode cX11_few 35 = .ok (.istore 5, 2) := by decide +kernel
theorem dX11_few_37 : decode cX11_few 37 = .ok (.iload 5, 2) := by decide +kernel
theorem dX11_few_39 : decode cX11_few 39 = .ok (.aload_n 0, 1) := by decide +kernel
theorem dX11_few_40 : decode cX11_few 40 = .ok (.getfield 130, 3) := by decide +kernel
theorem dX11_few_43 : decode cX11_few 43 = .ok (.if_icmp .ge 128, 3) := by decide +kernel
theorem dX11_few_46 : decode cX11_few 46 = .ok (.aload_n 0, 1) := by decide +kernel
theorem dX11_few_47 : decode cX11_few 47 = .ok (.iload_n 3, 1) := by decide +kernel
theorem dX11_few_48 : decode cX11_few 48 = .ok (.iload_n 1, 1) := by decide +kernel
theorem dX11_few_49 : decode cX11_few 49 = .ok (.invokevirtual 396, 3) := by decide +kernel
theorem dX11_few_52 : decode cX11_few 52 = .ok (.ifCond .eq 119, 3) := by decide +kernel
theorem dX11_few_55 : decode cX11_few 55 = .ok (.iload 5, 2) := by decide +kernel
theorem dX11_few_57 : decode cX11_few 57 = .ok (.iload_n 3, 1) := by decide +kernel
theorem dX11_few_58 : decode cX11_few 58 = .ok (.if_icmp .eq 44, 3) := by decide +kernel
theorem dX11_few_61 : decode cX11_few 61 = .ok (.aload_n 0, 1) := by decide +kernel
theorem dX11_few_62 : decode cX11_few 62 = .ok (.iload 5, 2) := by decide +kernel
theorem dX11_few_64 : decode cX11_few 64 = .ok (.invokevirtual 197, 3) := by decide +kernel
theorem dX11_few_67 : decode cX11_few 67 = .ok (.ifCond .eq 35, 3) := by decide +kernel
theorem dX11_few_70 : decode cX11_few 70 = .ok (.aload_n 0, 1) := by decide +kernel
theorem dX11_few_71 : decode cX11_few 71 = .ok (.getfield 7, 3) := by decide +kernel
end
section
theorem dL_law_217 : decode cL_law 217 = .ok (.aload_n 1, 1) := by decide +kernel
theorem dL_law_218 : decode cL_law 218 = .ok (.aload_n 0, 1) := by decide +kernel
theorem dL_law_219 : decode cL_law 219 = .ok (.iload_n 3, 1) := by decide +kernel
theorem dL_law_220 : decode cL_law 220 = .ok (.iconst 1, 1) := by decide +kernel
theorem dL_law_221 : decode cL_law 221 = .ok (.iadd, 1) := by decide +kernel
theorem dL_law_222 : decode cL_law 222 = .ok (.iaload, 1) := by decide +kernel
theorem dL_law_223 : decode cL_law 223 = .ok (.aload_n 0, 1) := by decide +kernel
theorem dL_law_224 : decode cL_law 224 = .ok (.iload_n 3, 1) := by decide +kernel
theorem dL_law_225 : decode cL_law 225 = .ok (.iconst 2, 1) := by decide +kernel
theorem dL_law_226 : decode cL_law 226 = .ok (.iadd, 1) := by decide +kernel
theorem dL_law_227 : decode cL_law 227 = .ok (.iaload, 1) := by decide +kernel
theorem dL_law_228 : decode cL_law 228 = .ok (.aload_n 0, 1) := by decide +kernel
theorem dL_law_229 : decode cL_law 229 = .ok (.iload_n 3, 1) := by decide +kernel
theorem dL_law_230 : decode cL_law 230 = .ok (.iconst 3, 1) := by decide +kernel
theorem dL_law_231 : decode cL_law 231 = .ok (.iadd, 1) := by decide +kernel
theorem dL_law_232 : decode cL_law 232 = .ok (.iaload, 1) := by decide +kernel
theorem dL_law_236 : decode cL_law 236 = .ok (.aload_n 2, 1) := by decide +kernel
theorem dL_law_237 : decode cL_law 237 = .ok (.aload_n 0, 1) := by decide +kernel
theorem dL_law_238 : decode cL_law 238 = .ok (.iload_n 3, 1) := by decide +kernel
theorem dL_law_239 : decode cL_law 239 = .ok (.iconst 1, 1) := by decide +kernel
theorem dL_law_240 : decode cL_law 240 = .ok (.iadd, 1) := by decide +kernel
theorem dL_law_241 : decode cL_law 241 = .ok (.iaload, 1) := by decide +kernel
theorem dL_law_242 : decode cL_law 242 = .ok (.aload_n 0, 1) := by decide +kernel
theorem dL_law_243 : decode cL_law 243 = .ok (.iload_n 3, 1) := by decide +kernel
theorem dL_law_244 : decode cL_law 244 = .ok (.iconst 2, 1) := by decide +kernel
theorem dL_law_245 : decode cL_law 245 = .ok (.iadd, 1) := by decide +kernel
theorem dL_law_246 : decode cL_law 246 = .ok (.iaload, 1) := by decide +kernel
theorem dL_law_247 : decode cL_law 247 = .ok (.aload_n 0, 1) := by decide +kernel
theorem dL_law_248 : decode cL_law 248 = .ok (.iload_n 3, 1) := by decide +kernel
theorem dL_law_249 : decode cL_law 249 = .ok (.iconst 3, 1) := by decide +kernel
theorem dL_law_250 : decode cL_law 250 = .ok (.iadd, 1) := by decide +kernel
theorem dL_law_251 : decode cL_law 251 = .ok (.iaload, 1) := by decide +kernel
theorem dL_law_233 : decode cL_law 233 = .ok (.invokevirtual 18, 3) := by decide +kernel
theorem dL_law_252 : decode cL_law 252 = .ok (.invokevirtual 22, 3) := by decide +kernel
theorem dL_law_255 : decode cL_law 255 = .ok (.if_icmp .eq 826, 3) := by decide +kernel
theorem dL_law_260 : decode cL_law 260 = .ok (.aload_n 1, 1) := by decide +kernel
theorem dL_law_261 : decode cL_law 261 = .ok (.aload_n 0, 1) := by decide +kernel
theorem dL_law_262 : decode cL_law 262 = .ok (.iload_n 3, 1) := by decide +kernel
theorem dL_law_263 : decode cL_law 263 = .ok (.iconst 1, 1) := by decide +kernel
theorem dL_law_264 : decode cL_law 264 = .ok (.iadd, 1) := by decide +kernel
theorem dL_law_265 : decode cL_law 265 = .ok (.iaload, 1) := by decide +kernel
theorem dL_law_270 : decode cL_law 270 = .ok (.aload_n 2, 1) := by decide +kernel
theorem dL_law_271 : decode cL_law 271 = .ok (.aload_n 0, 1) := by decide +kernel
theorem dL_law_272 : decode cL_law 272 = .ok (.iload_n 3, 1) := by decide +kernel
theorem dL_law_273 : decode cL_law 273 = .ok (.iconst 1, 1) := by decide +kernel
theorem dL_law_274 : decode cL_law 274 = .ok (.iadd, 1) := by decide +kernel
theorem dL_law_275 : decode cL_law 275 = .ok (.iaload, 1) := by decide +kernel
theorem dL_law_266 : decode cL_law 266 = .ok (.invokevirtual 23, 3) := by decide +kernel
theorem dL_law_269 : decode cL_law 269 = .ok (.pop, 1) := by decide +kernel
theorem dL_law_276 : decode cL_law 276 = .ok (.invokevirtual 27, 3) := by decide +kernel
theorem dL_law_279 : decode cL_law 279 = .ok (.pop, 1) := by decide +kernel
theorem dL_law_280 : decode cL_law 280 = .ok (.goto 801, 3) := by decide +kernel
theorem dL_law_283 : decode cL_law 283 = .ok (.aload_n 1, 1) := by decide +kernel
theorem dL_law_284 : decode cL_law 284 = .ok (.aload_n 0, 1) := by decide +kernel
theorem dL_law_285 : decode cL_law 285 = .ok (.iload_n 3, 1) := by decide +kernel
theorem dL_law_286 : decode cL_law 286 = .ok (.iconst 1, 1) := by decide +kernel
theorem dL_law_287 : decode cL_law 287 = .ok (.iadd, 1) := by decide +kernel
theorem dL_law_288 : decode cL_law 288 = .ok (.iaload, 1) := by decide +kernel
theorem dL_law_293 : decode cL_law 293 = .ok (.aload_n 2, 1) := by decide +kernel
theorem dL_law_294 : decode cL_law 294 = .ok (.aload_n 0, 1) := by decide +kernel
theorem dL_law_295 : decode cL_law 295 = .ok (.iload_n 3, 1) := by decide +kernel
theorem dL_law_296 : decode cL_law 296 = .ok (.iconst 1, 1) := by decide +kernel
theorem dL_law_297 : decode cL_law 297 = .ok (.iadd, 1) := by decide +kernel
theorem dL_law_298 : decode cL_law 298 = .ok (.iaload, 1) := by decide +kernel
theorem dL_law_289 : decode cL_law 289 = .ok (.invokevirtual 28, 3) := by decide +kernel
theorem dL_law_292 : decode cL_law 292 = .ok (.pop, 1) := by decide +kernel
theorem dL_law_299 : decode cL_law 299 = .ok (.invokevirtual 31, 3) := by decide +kernel
theorem dL_law_302 : decode cL_law 302 = .ok (.pop, 1) := by decide +kernel
theorem dL_law_303 : decode cL_law 303 = .ok (.goto 778, 3) := by decide +kernel
theorem dL_law_306 : decode cL_law 306 = .ok (.aload_n 1, 1) := by decide +kernel
theorem dL_law_307 : decode cL_law 307 = .ok (.aload_n 0, 1) := by decide +kernel
theorem dL_law_308 : decode cL_law 308 = .ok (.iload_n 3, 1) := by decide +kernel
theorem dL_law_309 : decode cL_law 309 = .ok (.iconst 1, 1) := by decide +kernel
theorem dL_law_310 : decode cL_law 310 = .ok (.iadd, 1) := by decide +kernel
theorem dL_law_311 : decode cL_law 311 = .ok (.iaload, 1) := by decide +kernel
theorem dL_law_312 : decode cL_law 312 = .ok (.aload_n 0, 1) := by decide +kernel
theorem dL_law_313 : decode cL_law 313 = .ok (.iload_n 3, 1) := by decide +kernel
theorem dL_law_314 : decode cL_law 314 = .ok (.iconst 2, 1) := by decide +kernel
theorem dL_law_315 : decode cL_law 315 = .ok (.iadd, 1) := by decide +kernel
theorem dL_law_316 : decode cL_law 316 = .ok (.iaload, 1) := by decide +kernel
theorem dL_law_321 : decode cL_law 321 = .ok (.aload_n 2, 1) := by decide +kernel
theorem dL_law_322 : decode cL_law 322 = .ok (.aload_n 0, 1) := by decide +kernel
theorem dL_law_323 : decode cL_law 323 = .ok (.iload_n 3, 1) := by decide +kernel
theorem dL_law_324 : decode cL_law 324 = .ok (.iconst 1, 1) := by decide +kernel
theorem dL_law_325 : decode cL_law 325 = .ok (.iadd, 1) := by decide +kernel
theorem dL_law_326 : decode cL_law 326 = .ok (.iaload, 1) := by decide +kernel
theorem dL_law_327 : decode cL_law 327 = .ok (.aload_n 0, 1) := by decide +kernel
theorem dL_law_328 : decode cL_law 328 = .ok (.iload_n 3, 1) := by decide +kernel
theorem dL_law_329 : decode cL_law 329 = .ok (.iconst 2, 1) := by decide +kernel
theorem dL_law_330 : decode cL_law 330 = .ok (.iadd, 1) := by decide +kernel
theorem dL_law_331 : decode cL_law 331 = .ok (.iaload, 1) := by decide +kernel
theorem dL_law_317 : decode cL_law 317 = .ok (.invokevirtual 32, 3) := by decide +kernel
theorem dL_law_320 : decode cL_law 320 = .ok (.pop, 1) := by decide +kernel
theorem dL_law_332 : decode cL_law 332 = .ok (.invokevirtual 36, 3) := by decide +kernel
theorem dL_law_335 : decode cL_law 335 = .ok (.pop, 1) := by decide +kernel
theorem dL_law_336 : decode cL_law 336 = .ok (.goto 745, 3) := by decide +kernel
theorem dL_law_339 : decode cL_law 339 = .ok (.aload_n 1, 1) := by decide +kernel
theorem dL_law_340 : decode cL_law 340 = .ok (.aload_n 0, 1) := by decide +kernel
theorem dL_law_341 : decode cL_law 341 = .ok (.iload_n 3, 1) := by decide +kernel
theorem dL_law_342 : decode cL_law 342 = .ok (.iconst 1, 1) := by decide +kernel
theorem dL_law_343 : decode cL_law 343 = .ok (.iadd, 1) := by decide +kernel
theorem dL_law_344 : decode cL_law 344 = .ok (.iaload, 1) := by decide +kernel
theorem dL_law_349 : decode cL_law 349 = .ok (.aload_n 2, 1) := by decide +kernel
theorem dL_law_350 : decode cL_law 350 = .ok (.aload_n 0, 1) := by decide +kernel
theorem dL_law_351 : decode cL_law 351 = .ok (.iload_n 3, 1) := by decide +kernel
theorem dL_law_352 : decode cL_law 352 = .ok (.iconst 1, 1) := by decide +kernel
theorem dL_law_353 : decode cL_law 353 = .ok (.iadd, 1) := by decide +kernel
theorem dL_law_354 : decode cL_law 354 = .ok (.iaload, 1) := by decide +kernel
theorem dL_law_345 : decode cL_law 345 = .ok (.invokevirtual 37, 3) := by decide +kernel
theorem dL_law_348 : decode cL_law 348 = .ok (.pop, 1) := by decide +kernel
theorem dL_law_355 : decode cL_law 355 = .ok (.invokevirtual 40, 3) := by decide +kernel
theorem dL_law_358 : decode cL_law 358 = .ok (.pop, 1) := by decide +kernel
theorem dL_law_359 : decode cL_law 359 = .ok (.goto 722, 3) := by decide +kernel
theorem dL_law_362 : decode cL_law 362 = .ok (.aload_n 1, 1) := by decide +kernel
theorem dL_law_363 : decode cL_law 363 = .ok (.aload_n 0, 1) := by decide +kernel
theorem dL_law_364 : decode cL_law 364 = .ok (.iload_n 3, 1) := by decide +kernel
theorem dL_law_365 : decode cL_law 365 = .ok (.iconst 1, 1) := by decide +kernel
theorem dL_law_366 : decode cL_law 366 = .ok (.iadd, 1) := by decide +kernel
theorem dL_law_367 : decode cL_law 367 = .ok (.iaload, 1) := by decide +kernel
theorem dL_law_368 : decode cL_law 368 = .ok (.aload_n 0, 1) := by decide +kernel
theorem dL_law_369 : decode cL_law 369 = .ok (.iload_n 3, 1) := by decide +kernel
theorem dL_law_370 : decode cL_law 370 = .ok (.iconst 2, 1) := by decide +kernel
theorem dL_law_371 : decode cL_law 371 = .ok (.iadd, 1) := by decide +kernel
theorem dL_law_372 : decode cL_law 372 = .ok (.iaload, 1) := by decide +kernel
theorem dL_law_373 : decode cL_law 373 = .ok (.aload_n 0, 1) := by decide +kernel
theorem dL_law_374 : decode cL_law 374 = .ok (.iload_n 3, 1) := by decide +kernel
theorem dL_law_375 : decode cL_law 375 = .ok (.iconst 3, 1) := by decide +kernel
theorem dL_law_376 : decode cL_law 376 = .ok (.iadd, 1) := by decide +kernel
theorem dL_law_377 : decode cL_law 377 = .ok (.iaload, 1) := by decide +kernel
theorem dL_law_378 : decode cL_law 378 = .ok (.aload_n 0, 1) := by decide +kernel
theorem dL_law_379 : decode cL_law 379 = .ok (.iload_n 3, 1) := by decide +kernel
theorem dL_law_380 : decode cL_law 380 = .ok (.iconst 4, 1) := by decide +kernel
theorem dL_law_381 : decode cL_law 381 = .ok (.iadd, 1) := by decide +kernel
theorem dL_law_382 : decode cL_law 382 = .ok (.iaload, 1) := by decide +kernel
theorem dL_law_383 : decode cL_law 383 = .ok (.aload_n 0, 1) := by decide +kernel
theorem dL_law_384 : decode cL_law 384 = .ok (.iload_n 3, 1) := by decide +kernel
theorem dL_law_385 : decode cL_law 385 = .ok (.iconst 5, 1) := by decide +kernel
theorem dL_law_386 : decode cL_law 386 = .ok (.iadd, 1) := by decide +kernel
theorem dL_law_387 : decode cL_law 387 = .ok (.iaload, 1) := by decide +kernel
theorem dL_law_392 : decode cL_law 392 = .ok (.aload_n 2, 1) := by decide +kernel
theorem dL_law_393 : decode cL_law 393 = .ok (.aload_n 0, 1) := by decide +kernel
theorem dL_law_394 : decode cL_law 394 = .ok (.iload_n 3, 1) := by decide +kernel
theorem dL_law_395 : decode cL_law 395 = .ok (.iconst 1, 1) := by decide +kernel
theorem dL_law_396 : decode cL_law 396 = .ok (.iadd, 1) := by decide +kernel
theorem dL_law_397 : decode cL_law 397 = .ok (.iaload, 1) := by decide +kernel
theorem dL_law_398 : decode cL_law 398 = .ok (.aload_n 0, 1) := by decide +kernel
theorem dL_law_399 : decode cL_law 399 = .ok (.iload_n 3, 1) := by decide +kernel
theorem dL_law_400 : decode cL_law 400 = .ok (.iconst 2, 1) := by decide +kernel
theorem dL_law_401 : decode cL_law 401 = .ok (.iadd, 1) := by decide +kernel
theorem dL_law_402 : decode cL_law 402 = .ok (.iaload, 1) := by decide +kernel
theorem dL_law_403 : decode cL_law 403 = .ok (.aload_n 0, 1) := by decide +kernel
theorem dL_law_404 : decode cL_law 404 = .ok (.iload_n 3, 1) := by decide +kernel
theorem dL_law_405 : decode cL_law 405 = .ok (.iconst 3, 1) := by decide +kernel
theorem dL_law_406 : decode cL_law 406 = .ok (.iadd, 1) := by decide +kernel
theorem dL_law_407 : decode cL_law 407 = .ok (.iaload, 1) := by decide +kernel
theorem dL_law_408 : decode cL_law 408 = .ok (.aload_n 0, 1) := by decide +kernel
theorem dL_law_409 : decode cL_law 409 = .ok (.iload_n 3, 1) := by decide +kernel
theorem dL_law_410 : decode cL_law 410 = .ok (.iconst 4, 1) := by decide +kernel
theorem dL_law_411 : decode cL_law 411 = .ok (.iadd, 1) := by decide +kernel
theorem dL_law_412 : decode cL_law 412 = .ok (.iaload, 1) := by decide +kernel
theorem dL_law_413 : decode cL_law 413 = .ok (.aload_n 0, 1) := by decide +kernel
theorem dL_law_414 : decode cL_law 414 = .ok (.iload_n 3, 1) := by decide +kernel
theorem dL_law_415 : decode cL_law 415 = .ok (.iconst 5, 1) := by decide +kernel
theorem dL_law_416 : decode cL_law 416 = .ok (.iadd, 1) := by decide +kernel
theorem dL_law_417 : decode cL_law 417 = .ok (.iaload, 1) := by decide +kernel
theorem dL_law_388 : decode cL_law 388 = .ok (.invokevirtual 41, 3) := by decide +kernel
theorem dL_law_391 : decode cL_law 391 = .ok (.pop, 1) := by decide +kernel
theorem dL_law_418 : decode cL_law 418 = .ok (.invokevirtual 45, 3) := by decide +kernel
theorem dL_law_421 : decode cL_law 421 = .ok (.pop, 1) := by decide +kernel
theorem dL_law_422 : decode cL_law 422 = .ok (.goto 659, 3) := by decide +kernel
theorem dL_law_425 : decode cL_law 425 = .ok (.aload_n 1, 1) := by decide +kernel
theorem dL_law_426 : decode cL_law 426 = .ok (.aload_n 0, 1) := by decide +kernel
theorem dL_law_427 : decode cL_law 427 = .ok (.iload_n 3, 1) := by decide +kernel
theorem dL_law_428 : decode cL_law 428 = .ok (.iconst 1, 1) := by decide +kernel
theorem dL_law_429 : decode cL_law 429 = .ok (.iadd, 1) := by decide +kernel
theorem dL_law_430 : decode cL_law 430 = .ok (.iaload, 1) := by decide +kernel
theorem dL_law_435 : decode cL_law 435 = .ok (.aload_n 2, 1) := by decide +kernel
theorem dL_law_436 : decode cL_law 436 = .ok (.aload_n 0, 1) := by decide +kernel
theorem dL_law_437 : decode cL_law 437 = .ok (.iload_n 3, 1) := by decide +kernel
theorem dL_law_438 : decode cL_law 438 = .ok (.iconst 1, 1) := by decide +kernel
theorem dL_law_439 : decode cL_law 439 = .ok (.iadd, 1) := by decide +kernel
theorem dL_law_440 : decode cL_law 440 = .ok (.iaload, 1) := by decide +kernel
theorem dL_law_431 : decode cL_law 431 = .ok (.invokevirtual 46, 3) := by decide +kernel
theorem dL_law_434 : decode cL_law 434 = .ok (.pop, 1) := by decide +kernel
theorem dL_law_441 : decode cL_law 441 = .ok (.invokevirtual 49, 3) := by decide +kernel
theorem dL_law_444 : decode cL_law 444 = .ok (.pop, 1) := by decide +kernel
theorem dL_law_445 : decode cL_law 445 = .ok (.goto 636, 3) := by decide +kernel
theorem dL_law_448 : decode cL_law 448 = .ok (.aload_n 1, 1) := by decide +kernel
theorem dL_law_449 : decode cL_law 449 = .ok (.aload_n 0, 1) := by decide +kernel
theorem dL_law_450 : decode cL_law 450 = .ok (.iload_n 3, 1) := by decide +kernel
theorem dL_law_451 : decode cL_law 451 = .ok (.iconst 1, 1) := by decide +kernel
theorem dL_law_452 : decode cL_law 452 = .ok (.iadd, 1) := by decide +kernel
theorem dL_law_453 : decode cL_law 453 = .ok (.iaload, 1) := by decide +kernel
theorem dL_law_454 : decode cL_law 454 = .ok (.aload_n 0, 1) := by decide +kernel
theorem dL_law_455 : decode cL_law 455 = .ok (.iload_n 3, 1) := by decide +kernel
theorem dL_law_456 : decode cL_law 456 = .ok (.iconst 2, 1) := by decide +kernel
theorem dL_law_457 : decode cL_law 457 = .ok (.iadd, 1) := by decide +kernel
theorem dL_law_458 : decode cL_law 458 = .ok (.iaload, 1) := by decide +kernel
theorem dL_law_463 : decode cL_law 463 = .ok (.aload_n 2, 1) := by decide +kernel
theorem dL_law_464 : decode cL_law 464 = .ok (.aload_n 0, 1) := by decide +kernel
theorem dL_law_465 : decode cL_law 465 = .ok (.iload_n 3, 1) := by decide +kernel
theorem dL_law_466 : decode cL_law 466 = .ok (.iconst 1, 1) := by decide +kernel
theorem dL_law_467 : decode cL_law 467 = .ok (.iadd, 1) := by decide +kernel
theorem dL_law_468 : decode cL_law 468 = .ok (.iaload, 1) := by decide +kernel
theorem dL_law_469 : decode cL_law 469 = .ok (.aload_n 0, 1) := by decide +kernel
theorem dL_law_470 : decode cL_law 470 = .ok (.iload_n 3, 1) := by decide +kernel
theorem dL_law_471 : decode cL_law 471 = .ok (.iconst 2, 1) := by decide +kernel
theorem dL_law_472 : decode cL_law 472 = .ok (.iadd, 1) := by decide +kernel
theorem dL_law_473 : decode cL_law 473 = .ok (.iaload, 1) := by decide +kernel
theorem dL_law_459 : decode cL_law 459 = .ok (.invokevirtual 50, 3) := by decide +kernel
theorem dL_law_462 : decode cL_law 462 = .ok (.pop, 1) := by decide +kernel
theorem dL_law_474 : decode cL_law 474 = .ok (.invokevirtual 54, 3) := by decide +kernel
theorem dL_law_477 : decode cL_law 477 = .ok (.pop, 1) := by decide +kernel
theorem dL_law_478 : decode cL_law 478 = .ok (.goto 603, 3) := by decide +kernel
theorem dL_law_524 : decode cL_law 524 = .ok (.aload_n 1, 1) := by decide +kernel
theorem dL_law_525 : decode cL_law 525 = .ok (.aload_n 0, 1) := by decide +kernel
theorem dL_law_526 : decode cL_law 526 = .ok (.iload_n 3, 1) := by decide +kernel
theorem dL_law_527 : decode cL_law 527 = .ok (.iconst 1, 1) := by decide +kernel
theorem dL_law_528 : decode cL_law 528 = .ok (.iadd, 1) := by decide +kernel
theorem dL_law_529 : decode cL_law 529 = .ok (.iaload, 1) := by decide +kernel
theorem dL_law_534 : decode cL_law 534 = .ok (.aload_n 2, 1) := by decide +kernel
theorem dL_law_535 : decode cL_law 535 = .ok (.aload_n 0, 1) := by decide +kernel
theorem dL_law_536 : decode cL_law 536 = .ok (.iload_n 3, 1) := by decide +kernel
theorem dL_law_537 : decode cL_law 537 = .ok (.iconst 1, 1) := by decide +kernel
theorem dL_law_538 : decode cL_law 538 = .ok (.iadd, 1) := by decide +kernel
theorem dL_law_539 : decode cL_law 539 = .ok (.iaload, 1) := by decide +kernel
theorem dL_law_530 : decode cL_law 530 = .ok (.invokevirtual 59, 3) := by decide +kernel
theorem dL_law_533 : decode cL_law 533 = .ok (.pop, 1) := by decide +kernel
theorem dL_law_540 : decode cL_law 540 = .ok (.invokevirtual 62, 3) := by decide +kernel
theorem dL_law_543 : decode cL_law 543 = .ok (.pop, 1) := by decide +kernel
theorem dL_law_544 : decode cL_law 544 = .ok (.goto 537, 3) := by decide +kernel
theorem dL_law_164 : decode cL_law 164 = .ok (.aload_n 1, 1) := by decide +kernel
theorem dL_law_165 : decode cL_law 165 = .ok (.aload_n 0, 1) := by decide +kernel
theorem dL_law_166 : decode cL_law 166 = .ok (.iload_n 3, 1) := by decide +kernel
theorem dL_law_167 : decode cL_law 167 = .ok (.iconst 1, 1) := by decide +kernel
theorem dL_law_168 : decode cL_law 168 = .ok (.iadd, 1) := by decide +kernel
theorem dL_law_169 : decode cL_law 169 = .ok (.iaload, 1) := by decide +kernel
theorem dL_law_170 : decode cL_law 170 = .ok (.aload_n 0, 1) := by decide +kernel
theorem dL_law_171 : decode cL_law 171 = .ok (.iload_n 3, 1) := by decide +kernel
theorem dL_law_172 : decode cL_law 172 = .ok (.iconst 2, 1) := by decide +kernel
theorem dL_law_173 : decode cL_law 173 = .ok (.iadd, 1) := by decide +kernel
theorem dL_law_174 : decode cL_law 174 = .ok (.iaload, 1) := by decide +kernel
theorem dL_law_175 : decode cL_law 175 = .ok (.aload_n 0, 1) := by decide +kernel
theorem dL_law_176 : decode cL_law 176 = .ok (.iload_n 3, 1) := by decide +kernel
theorem dL_law_177 : decode cL_law 177 = .ok (.iconst 3, 1) := by decide +kernel
theorem dL_law_178 : decode cL_law 178 = .ok (.iadd, 1) := by decide +kernel
theorem dL_law_179 : decode cL_law 179 = .ok (.iaload, 1) := by decide +kernel
theorem dL_law_180 : decode cL_law 180 = .ok (.aload_n 0, 1) := by decide +kernel
theorem dL_law_181 : decode cL_law 181 = .ok (.iload_n 3, 1) := by decide +kernel
theorem dL_law_182 : decode cL_law 182 = .ok (.iconst 4, 1) := by decide +kernel
theorem dL_law_183 : decode cL_law 183 = .ok (.iadd, 1) := by decide +kernel
theorem dL_law_184 : decode cL_law 184 = .ok (.iaload, 1) := by decide +kernel
theorem dL_law_189 : decode cL_law 189 = .ok (.aload_n 2, 1) := by decide +kernel
theorem dL_law_190 : decode cL_law 190 = .ok (.aload_n 0, 1) := by decide +kernel
theorem dL_law_191 : decode cL_law 191 = .ok (.iload_n 3, 1) := by decide +kernel
theorem dL_law_192 : decode cL_law 192 = .ok (.iconst 1, 1) := by decide +kernel
theorem dL_law_193 : decode cL_law 193 = .ok (.iadd, 1) := by decide +kernel
theorem dL_law_194 : decode cL_law 194 = .ok (.iaload, 1) := by decide +kernel
theorem dL_law_195 : decode cL_law 195 = .ok (.aload_n 0, 1) := by decide +kernel
theorem dL_law_196 : decode cL_law 196 = .ok (.iload_n 3, 1) := by decide +kernel
theorem dL_law_197 : decode cL_law 197 = .ok (.iconst 2, 1) := by decide +kernel
theorem dL_law_198 : decode cL_law 198 = .ok (.iadd, 1) := by decide +kernel
theorem dL_law_199 : decode cL_law 199 = .ok (.iaload, 1) := by decide +kernel
theorem dL_law_200 : decode cL_law 200 = .ok (.aload_n 0, 1) := by decide +kernel
theorem dL_law_201 : decode cL_law 201 = .ok (.iload_n 3, 1) := by decide +kernel
theorem dL_law_202 : decode cL_law 202 = .ok (.iconst 3, 1) := by decide +kernel
theorem dL_law_203 : decode cL_law 203 = .ok (.iadd, 1) := by decide +kernel
theorem dL_law_204 : decode cL_law 204 = .ok (.iaload, 1) := by decide +kernel
theorem dL_law_205 : decode cL_law 205 = .ok (.aload_n 0, 1) := by decide +kernel
theorem dL_law_206 : decode cL_law 206 = .ok (.iload_n 3, 1) := by decide +kernel
theorem dL_law_207 : decode cL_law 207 = .ok (.iconst 4, 1) := by decide +kernel
theorem dL_law_208 : decode cL_law 208 = .ok (.iadd, 1) := by decide +kernel
theorem dL_law_209 : decode cL_law 209 = .ok (.iaload, 1) := by decide +kernel
theorem dL_law_185 : decode cL_law 185 = .ok (.invokevirtual 13, 3) := by decide +kernel
theorem dL_law_188 : decode cL_law 188 = .ok (.pop, 1) := by decide +kernel
theorem dL_law_210 : decode cL_law 210 = .ok (.invokevirtual 17, 3) := by decide +kernel
theorem dL_law_213 : decode cL_law 213 = .ok (.pop, 1) := by decide +kernel
theorem dL_law_214 : decode cL_law 214 = .ok (.goto 867, 3) := by decide +kernel
theorem dL_law_616 : decode cL_law 616 = .ok (.aload_n 1, 1) := by decide +kernel
theorem dL_law_621 : decode cL_law 621 = .ok (.aload_n 2, 1) := by decide +kernel
theorem dL_law_617 : decode cL_law 617 = .ok (.invokevirtual 77, 3) := by decide +kernel
theorem dL_law_620 : decode cL_law 620 = .ok (.pop, 1) := by decide +kernel
theorem dL_law_622 : decode cL_law 622 = .ok (.invokevirtual 80, 3) := by decide +kernel
theorem dL_law_625 : decode cL_law 625 = .ok (.pop, 1) := by decide +kernel
theorem dL_law_626 : decode cL_law 626 = .ok (.goto 455, 3) := by decide +kernel
theorem dL_law_629 : decode cL_law 629 = .ok (.aload_n 1, 1) := by decide +kernel
theorem dL_law_634 : decode cL_law 634 = .ok (.aload_n 2, 1) := by decide +kernel
theorem dL_law_630 : decode cL_law 630 = .ok (.invokevirtual 81, 3) := by decide +kernel
theorem dL_law_633 : decode cL_law 633 = .ok (.pop, 1) := by decide +kernel
theorem dL_law_635 : decode cL_law 635 = .ok (.invokevirtual 84, 3) := by decide +kernel
theorem dL_law_638 : decode cL_law 638 = .ok (.pop, 1) := by decide +kernel
theorem dL_law_639 : decode cL_law 639 = .ok (.goto 442, 3) := by decide +kernel
theorem dL_law_547 : decode cL_law 547 = .ok (.aload_n 1, 1) := by decide +kernel
theorem dL_law_548 : decode cL_law 548 = .ok (.aload_n 0, 1) := by decide +kernel
theorem dL_law_549 : decode cL_law 549 = .ok (.iload_n 3, 1) := by decide +kernel
theorem dL_law_550 : decode cL_law 550 = .ok (.iconst 1, 1) := by decide +kernel
theorem dL_law_551 : decode cL_law 551 = .ok (.iadd, 1) := by decide +kernel
theorem dL_law_552 : decode cL_law 552 = .ok (.iaload, 1) := by decide +kernel
theorem dL_law_553 : decode cL_law 553 = .ok (.aload_n 0, 1) := by decide +kernel
theorem dL_law_554 : decode cL_law 554 = .ok (.iload_n 3, 1) := by decide +kernel
theorem dL_law_555 : decode cL_law 555 = .ok (.iconst 2, 1) := by decide +kernel
theorem dL_law_556 : decode cL_law 556 = .ok (.iadd, 1) := by decide +kernel
theorem dL_law_557 : decode cL_law 557 = .ok (.iaload, 1) := by decide +kernel
theorem dL_law_562 : decode cL_law 562 = .ok (.aload_n 2, 1) := by decide +kernel
theorem dL_law_563 : decode cL_law 563 = .ok (.aload_n 0, 1) := by decide +kernel
theorem dL_law_564 : decode cL_law 564 = .ok (.iload_n 3, 1) := by decide +kernel
theorem dL_law_565 : decode cL_law 565 = .ok (.iconst 1, 1) := by decide +kernel
theorem dL_law_566 : decode cL_law 566 = .ok (.iadd, 1) := by decide +kernel
theorem dL_law_567 : decode cL_law 567 = .ok (.iaload, 1) := by decide +kernel
theorem dL_law_568 : decode cL_law 568 = .ok (.aload_n 0, 1) := by decide +kernel
theorem dL_law_569 : decode cL_law 569 = .ok (.iload_n 3, 1) := by decide +kernel
theorem dL_law_570 : decode cL_law 570 = .ok (.iconst 2, 1) := by decide +kernel
theorem dL_law_571 : decode cL_law 571 = .ok (.iadd, 1) := by decide +kernel
theorem dL_law_572 : decode cL_law 572 = .ok (.iaload, 1) := by decide +kernel
theorem dL_law_558 : decode cL_law 558 = .ok (.invokevirtual 63, 3) := by decide +kernel
theorem dL_law_561 : decode cL_law 561 = .ok (.pop, 1) := by decide +kernel
theorem dL_law_573 : decode cL_law 573 = .ok (.invokevirtual 66, 3) := by decide +kernel
theorem dL_law_576 : decode cL_law 576 = .ok (.pop, 1) := by decide +kernel
theorem dL_law_577 : decode cL_law 577 = .ok (.goto 504, 3) := by decide +kernel
theorem dL_law_580 : decode cL_law 580 = .ok (.aload_n 1, 1) := by decide +kernel
theorem dL_law_585 : decode cL_law 585 = .ok (.aload_n 2, 1) := by decide +kernel
theorem dL_law_581 : decode cL_law 581 = .ok (.invokevirtual 67, 3) := by decide +kernel
theorem dL_law_584 : decode cL_law 584 = .ok (.pop, 1) := by decide +kernel
theorem dL_law_586 : decode cL_law 586 = .ok (.invokevirtual 71, 3) := by decide +kernel
theorem dL_law_589 : decode cL_law 589 = .ok (.pop, 1) := by decide +kernel
theorem dL_law_590 : decode cL_law 590 = .ok (.goto 491, 3) := by decide +kernel
theorem dL_law_593 : decode cL_law 593 = .ok (.aload_n 1, 1) := by decide +kernel
theorem dL_law_594 : decode cL_law 594 = .ok (.aload_n 0, 1) := by decide +kernel
theorem dL_law_595 : decode cL_law 595 = .ok (.iload_n 3, 1) := by decide +kernel
theorem dL_law_596 : decode cL_law 596 = .ok (.iconst 1, 1) := by decide +kernel
theorem dL_law_597 : decode cL_law 597 = .ok (.iadd, 1) := by decide +kernel
theorem dL_law_598 : decode cL_law 598 = .ok (.iaload, 1) := by decide +kernel
theorem dL_law_603 : decode cL_law 603 = .ok (.aload_n 2, 1) := by decide +kernel
theorem dL_law_604 : decode cL_law 604 = .ok (.aload_n 0, 1) := by decide +kernel
theorem dL_law_605 : decode cL_law 605 = .ok (.iload_n 3, 1) := by decide +kernel
theorem dL_law_606 : decode cL_law 606 = .ok (.iconst 1, 1) := by decide +kernel
theorem dL_law_607 : decode cL_law 607 = .ok (.iadd, 1) := by decide +kernel
theorem dL_law_608 : decode cL_law 608 = .ok (.iaload, 1) := by decide +kernel
theorem dL_law_599 : decode cL_law 599 = .ok (.invokevirtual 72, 3) := by decide +kernel
theorem dL_law_602 : decode cL_law 602 = .ok (.pop, 1) := by decide +kernel
theorem dL_law_609 : decode cL_law 609 = .ok (.invokevirtual 76, 3) := by decide +kernel
theorem dL_law_612 : decode cL_law 612 = .ok (.pop, 1) := by decide +kernel
theorem dL_law_613 : decode cL_law 613 = .ok (.goto 468, 3) := by decide +kernel
theorem dL_law_481 : decode cL_law 481 = .ok (.aload_n 1, 1) := by decide +kernel
theorem dL_law_482 : decode cL_law 482 = .ok (.aload_n 0, 1) := by decide +kernel
theorem dL_law_483 : decode cL_law 483 = .ok (.iload_n 3, 1) := by decide +kernel
theorem dL_law_484 : decode cL_law 484 = .ok (.iconst 1, 1) := by decide +kernel
theorem dL_law_485 : decode cL_law 485 = .ok (.iadd, 1) := by decide +kernel
theorem dL_law_486 : decode cL_law 486 = .ok (.iaload, 1) := by decide +kernel
theorem dL_law_487 : decode cL_law 487 = .ok (.aload_n 0, 1) := by decide +kernel
theorem dL_law_488 : decode cL_law 488 = .ok (.iload_n 3, 1) := by decide +kernel
theorem dL_law_489 : decode cL_law 489 = .ok (.iconst 2, 1) := by decide +kernel
theorem dL_law_490 : decode cL_law 490 = .ok (.iadd, 1) := by decide +kernel
theorem dL_law_491 : decode cL_law 491 = .ok (.iaload, 1) := by decide +kernel
theorem dL_law_492 : decode cL_law 492 = .ok (.aload_n 0, 1) := by decide +kernel
theorem dL_law_493 : decode cL_law 493 = .ok (.iload_n 3, 1) := by decide +kernel
theorem dL_law_494 : decode cL_law 494 = .ok (.iconst 3, 1) := by decide +kernel
theorem dL_law_495 : decode cL_law 495 = .ok (.iadd, 1) := by decide +kernel
theorem dL_law_496 : decode cL_law 496 = .ok (.iaload, 1) := by decide +kernel
theorem dL_law_501 : decode cL_law 501 = .ok (.aload_n 2, 1) := by decide +kernel
theorem dL_law_502 : decode cL_law 502 = .ok (.aload_n 0, 1) := by decide +kernel
theorem dL_law_503 : decode cL_law 503 = .ok (.iload_n 3, 1) := by decide +kernel
theorem dL_law_504 : decode cL_law 504 = .ok (.iconst 1, 1) := by decide +kernel
theorem dL_law_505 : decode cL_law 505 = .ok (.iadd, 1) := by decide +kernel
theorem dL_law_506 : decode cL_law 506 = .ok (.iaload, 1) := by decide +kernel
theorem dL_law_507 : decode cL_law 507 = .ok (.aload_n 0, 1) := by decide +kernel
theorem dL_law_508 : decode cL_law 508 = .ok (.iload_n 3, 1) := by decide +kernel
theorem dL_law_509 : decode cL_law 509 = .ok (.iconst 2, 1) := by decide +kernel
theorem dL_law_510 : decode cL_law 510 = .ok (.iadd, 1) := by decide +kernel
theorem dL_law_511 : decode cL_law 511 = .ok (.iaload, 1) := by decide +kernel
theorem dL_law_512 : decode cL_law 512 = .ok (.aload_n 0, 1) := by decide +kernel
theorem dL_law_513 : decode cL_law 513 = .ok (.iload_n 3, 1) := by decide +kernel
theorem dL_law_514 : decode cL_law 514 = .ok (.iconst 3, 1) := by decide +kernel
theorem dL_law_515 : decode cL_law 515 = .ok (.iadd, 1) := by decide +kernel
theorem dL_law_516 : decode cL_law 516 = .ok (.iaload, 1) := by decide +kernel
theorem dL_law_497 : decode cL_law 497 = .ok (.invokevirtual 55, 3) := by decide +kernel
theorem dL_law_500 : decode cL_law 500 = .ok (.pop, 1) := by decide +kernel
theorem dL_law_517 : decode cL_law 517 = .ok (.invokevirtual 58, 3) := by decide +kernel
theorem dL_law_520 : decode cL_law 520 = .ok (.pop, 1) := by decide +kernel
theorem dL_law_521 : decode cL_law 521 = .ok (.goto 560, 3) := by decide +kernel
theorem dL_law_675 : decode cL_law 675 = .ok (.aload_n 1, 1) := by decide +kernel
theorem dL_law_676 : decode cL_law 676 = .ok (.aload_n 0, 1) := by decide +kernel
theorem dL_law_677 : decode cL_law 677 = .ok (.iload_n 3, 1) := by decide +kernel
theorem dL_law_678 : decode cL_law 678 = .ok (.iconst 1, 1) := by decide +kernel
theorem dL_law_679 : decode cL_law 679 = .ok (.iadd, 1) := by decide +kernel
theorem dL_law_680 : decode cL_law 680 = .ok (.iaload, 1) := by decide +kernel
theorem dL_law_681 : decode cL_law 681 = .ok (.aload_n 0, 1) := by decide +kernel
theorem dL_law_682 : decode cL_law 682 = .ok (.iload_n 3, 1) := by decide +kernel
theorem dL_law_683 : decode cL_law 683 = .ok (.iconst 2, 1) := by decide +kernel
theorem dL_law_684 : decode cL_law 684 = .ok (.iadd, 1) := by decide +kernel
theorem dL_law_685 : decode cL_law 685 = .ok (.iaload, 1) := by decide +kernel
theorem dL_law_686 : decode cL_law 686 = .ok (.aload_n 0, 1) := by decide +kernel
theorem dL_law_687 : decode cL_law 687 = .ok (.iload_n 3, 1) := by decide +kernel
theorem dL_law_688 : decode cL_law 688 = .ok (.iconst 3, 1) := by decide +kernel
theorem dL_law_689 : decode cL_law 689 = .ok (.iadd, 1) := by decide +kernel
theorem dL_law_690 : decode cL_law 690 = .ok (.iaload, 1) := by decide +kernel
theorem dL_law_695 : decode cL_law 695 = .ok (.aload_n 2, 1) := by decide +kernel
theorem dL_law_696 : decode cL_law 696 = .ok (.aload_n 0, 1) := by decide +kernel
theorem dL_law_697 : decode cL_law 697 = .ok (.iload_n 3, 1) := by decide +kernel
theorem dL_law_698 : decode cL_law 698 = .ok (.iconst 1, 1) := by decide +kernel
end
