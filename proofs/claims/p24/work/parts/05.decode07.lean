section
theorem nN_cX11_few : onN cX11_few.data.toList = 0x15a92012dc12111594200a8010110a550201402a80282002a20e8142c0e00a691a025b8703c2b0f1b002b5159fa00a8010190a051b984080500aa00a0800a8c3c060b038029b4a8281017088053c95050202e1c00a680e16028581038480082a0700aa0cc6d012dc3c2b368096e060b0ac26014d01c2c071b8100a01540141001508bc3c1400ad4562f0305828015a8ac30015081c222f0305810015a8ac48014d31802b703058562d00a803c060b1e0029a468096e1c0f0ad020151a0c02b5158182c061b8100a37022c002a3418056a2b0f0fc08ad3f8056e081582802a564804241d05805381d07805381c := by decide +kernel
theorem dX11_few_74 : decode cX11_few 74 = .ok (.iload 5, 2) := op_21 nN_cX11_few (by decide +kernel)
theorem dX11_few_76 : decode cX11_few 76 = .ok (.iaload, 1) := op_46 nN_cX11_few (by decide +kernel)
theorem dX11_few_77 : decode cX11_few 77 = .ok (.bipush 6, 2) := op_16 nN_cX11_few (by decide +kernel)
theorem dX11_few_79 : decode cX11_few 79 = .ok (.if_icmp .ne 23, 3) := op_160 nN_cX11_few (by decide +kernel)
theorem dX11_few_82 : decode cX11_few 82 = .ok (.aload_n 0, 1) := op_42 nN_cX11_few (by decide +kernel)
theorem dX11_few_83 : decode cX11_few 83 = .ok (.getfield 19, 3) := op_180 nN_cX11_few (by decide +kernel)
theorem dX11_few_86 : decode cX11_few 86 = .ok (.iload 5, 2) := op_21 nN_cX11_few (by decide +kernel)
theorem dX11_few_88 : decode cX11_few 88 = .ok (.iaload, 1) := op_46 nN_cX11_few (by decide +kernel)
theorem dX11_few_89 : decode cX11_few 89 = .ok (.aload_n 0, 1) := op_42 nN_cX11_few (by decide +kernel)
theorem dX11_few_90 : decode cX11_few 90 = .ok (.getfield 19, 3) := op_180 nN_cX11_few (by decide +kernel)
theorem dX11_few_93 : decode cX11_few 93 = .ok (.iload_n 3, 1) := op_29 nN_cX11_few (by decide +kernel)
theorem dX11_few_94 : decode cX11_few 94 = .ok (.iaload, 1) := op_46 nN_cX11_few (by decide +kernel)
theorem dX11_few_95 : decode cX11_few 95 = .ok (.if_icmp .ne 7, 3) := op_160 nN_cX11_few (by decide +kernel)
theorem dX11_few_98 : decode cX11_few 98 = .ok (.iconst 1, 1) := op_4 nN_cX11_few (by decide +kernel)
theorem dX11_few_99 : decode cX11_few 99 = .ok (.goto 4, 3) := op_167 nN_cX11_few (by decide +kernel)
theorem dX11_few_102 : decode cX11_few 102 = .ok (.iconst 0, 1) := op_3 nN_cX11_few (by decide +kernel)
theorem dX11_few_103 : decode cX11_few 103 = .ok (.istore 6, 2) := op_54 nN_cX11_few (by decide +kernel)
theorem dX11_few_105 : decode cX11_few 105 = .ok (.iload 6, 2) := op_21 nN_cX11_few (by decide +kernel)
theorem dX11_few_107 : decode cX11_few 107 = .ok (.ifCond .eq 18, 3) := op_153 nN_cX11_few (by decide +kernel)
theorem dX11_few_110 : decode cX11_few 110 = .ok (.aload_n 0, 1) := op_42 nN_cX11_few (by decide +kernel)
theorem dX11_few_111 : decode cX11_few 111 = .ok (.iload 5, 2) := op_21 nN_cX11_few (by decide +kernel)
theorem dX11_few_113 : decode cX11_few 113 = .ok (.invokevirtual 364, 3) := op_182 nN_cX11_few (by decide +kernel)
theorem dX11_few_116 : decode cX11_few 116 = .ok (.aload_n 0, 1) := op_42 nN_cX11_few (by decide +kernel)
theorem dX11_few_117 : decode cX11_few 117 = .ok (.iload_n 3, 1) := op_29 nN_cX11_few (by decide +kernel)
theorem dX11_few_118 : decode cX11_few 118 = .ok (.invokevirtual 364, 3) := op_182 nN_cX11_few (by decide +kernel)
theorem dX11_few_121 : decode cX11_few 121 = .ok (.lsub, 1) := op_101 nN_cX11_few (by decide +kernel)
theorem dX11_few_122 : decode cX11_few 122 = .ok (.goto 6, 3) := op_167 nN_cX11_few (by decide +kernel)
theorem dX11_few_125 : decode cX11_few 125 = .ok (.ldc2_w 399, 3) := op_20 nN_cX11_few (by decide +kernel)
theorem dX11_few_128 : decode cX11_few 128 = .ok (.lstore 7, 2) := op_55 nN_cX11_few (by decide +kernel)
theorem dX11_few_130 : decode cX11_few 130 = .ok (.iload 4, 2) := op_21 nN_cX11_few (by decide +kernel)
theorem dX11_few_132 : decode cX11_few 132 = .ok (.iload 6, 2) := op_21 nN_cX11_few (by decide +kernel)
theorem dX11_few_134 : decode cX11_few 134 = .ok (.ifCond .eq 27, 3) := op_153 nN_cX11_few (by decide +kernel)
theorem dX11_few_137 : decode cX11_few 137 = .ok (.lload 7, 2) := op_22 nN_cX11_few (by decide +kernel)
theorem dX11_few_139 : decode cX11_few 139 = .ok (.lconst 0, 1) := op_9 nN_cX11_few (by decide +kernel)
theorem dX11_few_140 : decode cX11_few 140 = .ok (.lcmp, 1) := op_148 nN_cX11_few (by decide +kernel)
theorem dX11_few_141 : decode cX11_few 141 = .ok (.ifCond .gt 16, 3) := op_157 nN_cX11_few (by decide +kernel)
theorem dX11_few_144 : decode cX11_few 144 = .ok (.lload 7, 2) := op_22 nN_cX11_few (by decide +kernel)
theorem dX11_few_146 : decode cX11_few 146 = .ok (.lconst 0, 1) := op_9 nN_cX11_few (by decide +kernel)
theorem dX11_few_147 : decode cX11_few 147 = .ok (.lcmp, 1) := op_148 nN_cX11_few (by decide +kernel)
theorem dX11_few_148 : decode cX11_few 148 = .ok (.ifCond .ne 13, 3) := op_154 nN_cX11_few (by decide +kernel)
theorem dX11_few_151 : decode cX11_few 151 = .ok (.iload 5, 2) := op_21 nN_cX11_few (by decide +kernel)
theorem dX11_few_153 : decode cX11_few 153 = .ok (.iload_n 3, 1) := op_29 nN_cX11_few (by decide +kernel)
theorem dX11_few_154 : decode cX11_few 154 = .ok (.if_icmp .ge 7, 3) := op_162 nN_cX11_few (by decide +kernel)
theorem dX11_few_157 : decode cX11_few 157 = .ok (.iconst 1, 1) := op_4 nN_cX11_few (by decide +kernel)
theorem dX11_few_158 : decode cX11_few 158 = .ok (.goto 4, 3) := op_167 nN_cX11_few (by decide +kernel)
theorem dX11_few_161 : decode cX11_few 161 = .ok (.iconst 0, 1) := op_3 nN_cX11_few (by decide +kernel)
theorem dX11_few_162 : decode cX11_few 162 = .ok (.iadd, 1) := op_96 nN_cX11_few (by decide +kernel)
theorem dX11_few_163 : decode cX11_few 163 = .ok (.istore 4, 2) := op_54 nN_cX11_few (by decide +kernel)
theorem dX11_few_165 : decode cX11_few 165 = .ok (.iinc 5 1, 3) := op_132 nN_cX11_few (by decide +kernel)
theorem dX11_few_168 : decode cX11_few 168 = .ok (.goto (-131), 3) := op_167 nN_cX11_few (by decide +kernel)
theorem dX11_few_171 : decode cX11_few 171 = .ok (.aload_n 0, 1) := op_42 nN_cX11_few (by decide +kernel)
theorem dX11_few_172 : decode cX11_few 172 = .ok (.getfield 107, 3) := op_180 nN_cX11_few (by decide +kernel)
theorem dX11_few_175 : decode cX11_few 175 = .ok (.iload_n 3, 1) := op_29 nN_cX11_few (by decide +kernel)
theorem dX11_few_176 : decode cX11_few 176 = .ok (.aload_n 0, 1) := op_42 nN_cX11_few (by decide +kernel)
theorem dX11_few_177 : decode cX11_few 177 = .ok (.iload_n 3, 1) := op_29 nN_cX11_few (by decide +kernel)
theorem dX11_few_178 : decode cX11_few 178 = .ok (.iload_n 1, 1) := op_27 nN_cX11_few (by decide +kernel)
theorem dX11_few_179 : decode cX11_few 179 = .ok (.invokevirtual 396, 3) := op_182 nN_cX11_few (by decide +kernel)
theorem dX11_few_182 : decode cX11_few 182 = .ok (.ifCond .eq 13, 3) := op_153 nN_cX11_few (by decide +kernel)
theorem dX11_few_185 : decode cX11_few 185 = .ok (.iload 4, 2) := op_21 nN_cX11_few (by decide +kernel)
theorem dX11_few_187 : decode cX11_few 187 = .ok (.iload_n 2, 1) := op_28 nN_cX11_few (by decide +kernel)
theorem dX11_few_188 : decode cX11_few 188 = .ok (.if_icmp .lt 7, 3) := op_161 nN_cX11_few (by decide +kernel)
theorem dX11_few_191 : decode cX11_few 191 = .ok (.iconst 1, 1) := op_4 nN_cX11_few (by decide +kernel)
theorem dX11_few_192 : decode cX11_few 192 = .ok (.goto 4, 3) := op_167 nN_cX11_few (by decide +kernel)
theorem dX11_few_195 : decode cX11_few 195 = .ok (.iconst 0, 1) := op_3 nN_cX11_few (by decide +kernel)
theorem dX11_few_196 : decode cX11_few 196 = .ok (.bastore, 1) := op_84 nN_cX11_few (by decide +kernel)
theorem dX11_few_197 : decode cX11_few 197 = .ok (.iinc 3 1, 3) := op_132 nN_cX11_few (by decide +kernel)
theorem dX11_few_200 : decode cX11_few 200 = .ok (.goto (-177), 3) := op_167 nN_cX11_few (by decide +kernel)
theorem dX11_few_203 : decode cX11_few 203 = .ok (.aload_n 0, 1) := op_42 nN_cX11_few (by decide +kernel)
theorem dX11_few_204 : decode cX11_few 204 = .ok (.bipush 8, 2) := op_16 nN_cX11_few (by decide +kernel)
theorem dX11_few_206 : decode cX11_few 206 = .ok (.invokevirtual 401, 3) := op_182 nN_cX11_few (by decide +kernel)
theorem dX11_few_209 : decode cX11_few 209 = .ok (.ireturn, 1) := op_172 nN_cX11_few (by decide +kernel)
theorem nN_cX11_placeOf : onN cX11_placeOf.data.toList = 0x569940a95012d45695012d8c2054a8096a5a159412a025a8ad2a025a8acea015a8aca01d4a8096a2b390056a2b280712a025a8acde015a8adc100540080885568780c01508745e1e390056a2b08005421c17878de015a8ac400151a5404b5158787e04 := by decide +kernel
theorem dX11_placeOf_0 : decode cX11_placeOf 0 = .ok (.iconst 0, 1) := op_3 nN_cX11_placeOf (by decide +kernel)
theorem dX11_placeOf_1 : decode cX11_placeOf 1 = .ok (.istore_n 3, 1) := op_62 nN_cX11_placeOf (by decide +kernel)
theorem dX11_placeOf_2 : decode cX11_placeOf 2 = .ok (.iload_n 3, 1) := op_29 nN_cX11_placeOf (by decide +kernel)
theorem dX11_placeOf_3 : decode cX11_placeOf 3 = .ok (.aload_n 0, 1) := op_42 nN_cX11_placeOf (by decide +kernel)
theorem dX11_placeOf_4 : decode cX11_placeOf 4 = .ok (.getfield 404, 3) := op_180 nN_cX11_placeOf (by decide +kernel)
theorem dX11_placeOf_7 : decode cX11_placeOf 7 = .ok (.if_icmp .ge 31, 3) := op_162 nN_cX11_placeOf (by decide +kernel)
theorem dX11_placeOf_10 : decode cX11_placeOf 10 = .ok (.aload_n 0, 1) := op_42 nN_cX11_placeOf (by decide +kernel)
theorem dX11_placeOf_11 : decode cX11_placeOf 11 = .ok (.getfield 110, 3) := op_180 nN_cX11_placeOf (by decide +kernel)
theorem dX11_placeOf_14 : decode cX11_placeOf 14 = .ok (.iload_n 3, 1) := op_29 nN_cX11_placeOf (by decide +kernel)
theorem dX11_placeOf_15 : decode cX11_placeOf 15 = .ok (.iaload, 1) := op_46 nN_cX11_placeOf (by decide +kernel)
theorem dX11_placeOf_16 : decode cX11_placeOf 16 = .ok (.iload_n 1, 1) := op_27 nN_cX11_placeOf (by decide +kernel)
theorem dX11_placeOf_17 : decode cX11_placeOf 17 = .ok (.if_icmp .ne 15, 3) := op_160 nN_cX11_placeOf (by decide +kernel)
theorem dX11_placeOf_20 : decode cX11_placeOf 20 = .ok (.aload_n 0, 1) := op_42 nN_cX11_placeOf (by decide +kernel)
theorem dX11_placeOf_21 : decode cX11_placeOf 21 = .ok (.getfield 113, 3) := op_180 nN_cX11_placeOf (by decide +kernel)
theorem dX11_placeOf_24 : decode cX11_placeOf 24 = .ok (.iload_n 3, 1) := op_29 nN_cX11_placeOf (by decide +kernel)
theorem dX11_placeOf_25 : decode cX11_placeOf 25 = .ok (.iaload, 1) := op_46 nN_cX11_placeOf (by decide +kernel)
theorem dX11_placeOf_26 : decode cX11_placeOf 26 = .ok (.iload_n 2, 1) := op_28 nN_cX11_placeOf (by decide +kernel)
theorem dX11_placeOf_27 : decode cX11_placeOf 27 = .ok (.if_icmp .ne 5, 3) := op_160 nN_cX11_placeOf (by decide +kernel)
theorem dX11_placeOf_30 : decode cX11_placeOf 30 = .ok (.iload_n 3, 1) := op_29 nN_cX11_placeOf (by decide +kernel)
theorem dX11_placeOf_31 : decode cX11_placeOf 31 = .ok (.ireturn, 1) := op_172 nN_cX11_placeOf (by decide +kernel)
theorem dX11_placeOf_32 : decode cX11_placeOf 32 = .ok (.iinc 3 1, 3) := op_132 nN_cX11_placeOf (by decide +kernel)
theorem dX11_placeOf_35 : decode cX11_placeOf 35 = .ok (.goto (-33), 3) := op_167 nN_cX11_placeOf (by decide +kernel)
theorem dX11_placeOf_38 : decode cX11_placeOf 38 = .ok (.aload_n 0, 1) := op_42 nN_cX11_placeOf (by decide +kernel)
theorem dX11_placeOf_39 : decode cX11_placeOf 39 = .ok (.getfield 110, 3) := op_180 nN_cX11_placeOf (by decide +kernel)
theorem dX11_placeOf_42 : decode cX11_placeOf 42 = .ok (.aload_n 0, 1) := op_42 nN_cX11_placeOf (by decide +kernel)
theorem dX11_placeOf_43 : decode cX11_placeOf 43 = .ok (.getfield 404, 3) := op_180 nN_cX11_placeOf (by decide +kernel)
theorem dX11_placeOf_46 : decode cX11_placeOf 46 = .ok (.iload_n 1, 1) := op_27 nN_cX11_placeOf (by decide +kernel)
theorem dX11_placeOf_47 : decode cX11_placeOf 47 = .ok (.iastore, 1) := op_79 nN_cX11_placeOf (by decide +kernel)
theorem dX11_placeOf_48 : decode cX11_placeOf 48 = .ok (.aload_n 0, 1) := op_42 nN_cX11_placeOf (by decide +kernel)
theorem dX11_placeOf_49 : decode cX11_placeOf 49 = .ok (.getfield 113, 3) := op_180 nN_cX11_placeOf (by decide +kernel)
theorem dX11_placeOf_52 : decode cX11_placeOf 52 = .ok (.aload_n 0, 1) := op_42 nN_cX11_placeOf (by decide +kernel)
theorem dX11_placeOf_53 : decode cX11_placeOf 53 = .ok (.getfield 404, 3) := op_180 nN_cX11_placeOf (by decide +kernel)
theorem dX11_placeOf_56 : decode cX11_placeOf 56 = .ok (.iload_n 2, 1) := op_28 nN_cX11_placeOf (by decide +kernel)
theorem dX11_placeOf_57 : decode cX11_placeOf 57 = .ok (.iastore, 1) := op_79 nN_cX11_placeOf (by decide +kernel)
theorem dX11_placeOf_58 : decode cX11_placeOf 58 = .ok (.aload_n 0, 1) := op_42 nN_cX11_placeOf (by decide +kernel)
theorem dX11_placeOf_59 : decode cX11_placeOf 59 = .ok (.getfield 116, 3) := op_180 nN_cX11_placeOf (by decide +kernel)
theorem dX11_placeOf_62 : decode cX11_placeOf 62 = .ok (.aload_n 0, 1) := op_42 nN_cX11_placeOf (by decide +kernel)
theorem dX11_placeOf_63 : decode cX11_placeOf 63 = .ok (.getfield 404, 3) := op_180 nN_cX11_placeOf (by decide +kernel)
theorem dX11_placeOf_66 : decode cX11_placeOf 66 = .ok (.aload_n 0, 1) := op_42 nN_cX11_placeOf (by decide +kernel)
theorem dX11_placeOf_67 : decode cX11_placeOf 67 = .ok (.getfield 404, 3) := op_180 nN_cX11_placeOf (by decide +kernel)
theorem dX11_placeOf_70 : decode cX11_placeOf 70 = .ok (.iastore, 1) := op_79 nN_cX11_placeOf (by decide +kernel)
theorem dX11_placeOf_71 : decode cX11_placeOf 71 = .ok (.aload_n 0, 1) := op_42 nN_cX11_placeOf (by decide +kernel)
theorem dX11_placeOf_72 : decode cX11_placeOf 72 = .ok (.dup, 1) := op_89 nN_cX11_placeOf (by decide +kernel)
theorem dX11_placeOf_73 : decode cX11_placeOf 73 = .ok (.getfield 404, 3) := op_180 nN_cX11_placeOf (by decide +kernel)
theorem dX11_placeOf_76 : decode cX11_placeOf 76 = .ok (.iconst 1, 1) := op_4 nN_cX11_placeOf (by decide +kernel)
theorem dX11_placeOf_77 : decode cX11_placeOf 77 = .ok (.iadd, 1) := op_96 nN_cX11_placeOf (by decide +kernel)
theorem dX11_placeOf_78 : decode cX11_placeOf 78 = .ok (.putfield 404, 3) := op_181 nN_cX11_placeOf (by decide +kernel)
theorem dX11_placeOf_81 : decode cX11_placeOf 81 = .ok (.aload_n 0, 1) := op_42 nN_cX11_placeOf (by decide +kernel)
theorem dX11_placeOf_82 : decode cX11_placeOf 82 = .ok (.getfield 404, 3) := op_180 nN_cX11_placeOf (by decide +kernel)
theorem dX11_placeOf_85 : decode cX11_placeOf 85 = .ok (.iconst 1, 1) := op_4 nN_cX11_placeOf (by decide +kernel)
theorem dX11_placeOf_86 : decode cX11_placeOf 86 = .ok (.isub, 1) := op_100 nN_cX11_placeOf (by decide +kernel)
theorem dX11_placeOf_87 : decode cX11_placeOf 87 = .ok (.ireturn, 1) := op_172 nN_cX11_placeOf (by decide +kernel)
theorem nN_cX11_isRoad : onN cX11_isRoad.data.toList = 0x568100a015401410015081c5e1c040056a2b0900534c600adc382b := by decide +kernel
theorem dX11_isRoad_0 : decode cX11_isRoad 0 = .ok (.aload_n 0, 1) := op_42 nN_cX11_isRoad (by decide +kernel)
theorem dX11_isRoad_1 : decode cX11_isRoad 1 = .ok (.iload_n 1, 1) := op_27 nN_cX11_isRoad (by decide +kernel)
theorem dX11_isRoad_2 : decode cX11_isRoad 2 = .ok (.invokevirtual 197, 3) := op_182 nN_cX11_isRoad (by decide +kernel)
theorem dX11_isRoad_5 : decode cX11_isRoad 5 = .ok (.ifCond .eq 17, 3) := op_153 nN_cX11_isRoad (by decide +kernel)
theorem dX11_isRoad_8 : decode cX11_isRoad 8 = .ok (.aload_n 0, 1) := op_42 nN_cX11_isRoad (by decide +kernel)
theorem dX11_isRoad_9 : decode cX11_isRoad 9 = .ok (.getfield 7, 3) := op_180 nN_cX11_isRoad (by decide +kernel)
theorem dX11_isRoad_12 : decode cX11_isRoad 12 = .ok (.iload_n 1, 1) := op_27 nN_cX11_isRoad (by decide +kernel)
theorem dX11_isRoad_13 : decode cX11_isRoad 13 = .ok (.iaload, 1) := op_46 nN_cX11_isRoad (by decide +kernel)
theorem dX11_isRoad_14 : decode cX11_isRoad 14 = .ok (.iconst 3, 1) := op_6 nN_cX11_isRoad (by decide +kernel)
theorem dX11_isRoad_15 : decode cX11_isRoad 15 = .ok (.if_icmp .ne 7, 3) := op_160 nN_cX11_isRoad (by decide +kernel)
theorem dX11_isRoad_18 : decode cX11_isRoad 18 = .ok (.iconst 1, 1) := op_4 nN_cX11_isRoad (by decide +kernel)
theorem dX11_isRoad_19 : decode cX11_isRoad 19 = .ok (.goto 4, 3) := op_167 nN_cX11_isRoad (by decide +kernel)
theorem dX11_isRoad_22 : decode cX11_isRoad 22 = .ok (.iconst 0, 1) := op_3 nN_cX11_isRoad (by decide +kernel)
theorem dX11_isRoad_23 : decode cX11_isRoad 23 = .ok (.ireturn, 1) := op_172 nN_cX11_isRoad (by decide +kernel)
theorem nN_cX11_weight : onN cX11_weight.data.toList = 0x571a930025b8705686308145e1c070056a2b := by decide +kernel
theorem dX11_weight_0 : decode cX11_weight 0 = .ok (.aload_n 0, 1) := op_42 nN_cX11_weight (by decide +kernel)
theorem dX11_weight_1 : decode cX11_weight 1 = .ok (.getfield 13, 3) := op_180 nN_cX11_weight (by decide +kernel)
theorem dX11_weight_4 : decode cX11_weight 4 = .ok (.iload_n 1, 1) := op_27 nN_cX11_weight (by decide +kernel)
theorem dX11_weight_5 : decode cX11_weight 5 = .ok (.iaload, 1) := op_46 nN_cX11_weight (by decide +kernel)
theorem dX11_weight_6 : decode cX11_weight 6 = .ok (.iconst 1, 1) := op_4 nN_cX11_weight (by decide +kernel)
theorem dX11_weight_7 : decode cX11_weight 7 = .ok (.iadd, 1) := op_96 nN_cX11_weight (by decide +kernel)
theorem dX11_weight_8 : decode cX11_weight 8 = .ok (.i2l, 1) := op_133 nN_cX11_weight (by decide +kernel)
theorem dX11_weight_9 : decode cX11_weight 9 = .ok (.aload_n 0, 1) := op_42 nN_cX11_weight (by decide +kernel)
theorem dX11_weight_10 : decode cX11_weight 10 = .ok (.iload_n 1, 1) := op_27 nN_cX11_weight (by decide +kernel)
theorem dX11_weight_11 : decode cX11_weight 11 = .ok (.invokevirtual 407, 3) := op_182 nN_cX11_weight (by decide +kernel)
theorem dX11_weight_14 : decode cX11_weight 14 = .ok (.lmul, 1) := op_105 nN_cX11_weight (by decide +kernel)
theorem dX11_weight_15 : decode cX11_weight 15 = .ok (.lreturn, 1) := op_173 nN_cX11_weight (by decide +kernel)
theorem nN_cX11_choose : onN cX11_choose.data.toList = 0x15a92012dc1411158ca00a8010090ad7802a00407429405e070b1d402b51582c02a80f02002a1030585e070b1d402b51581c2c7500ad4562800a8d2a025a8ac0e16038dc08550201402a80282002a1030583c1d360056a2b030dc5ea1012dc5e050b0c002b5158bc0a16168056a2b159d402b5158146e65029845e1d150056a2b3487452111f8bd42025b8bcd21d1484460015a8ac5e690e8a4222d00ad4562b3a8056a2b2a8143a5d00ad4569600aa00e015080c3ad8802a00404428f83c0600a752a9e012dc3a2b4f0096e1e1584802a00187432014d8d03c5d00ad4562800a8d06015a8ac3c3f020f806ce00a8d06015a8ac383d0237200a8010090a550201402a802820029b4d8096e1c15870ba015a8acaa040e1b002b51589002a3418056a2b0e0f40895012d8082b := by decide +kernel
theorem dX11_choose_0 : decode cX11_choose 0 = .ok (.aload_n 0, 1) := op_42 nN_cX11_choose (by decide +kernel)
theorem dX11_choose_1 : decode cX11_choose 1 = .ok (.iconst 0, 1) := op_3 nN_cX11_choose (by decide +kernel)
theorem dX11_choose_2 : decode cX11_choose 2 = .ok (.putfield 404, 3) := op_181 nN_cX11_choose (by decide +kernel)
theorem dX11_choose_5 : decode cX11_choose 5 = .ok (.iconst 0, 1) := op_3 nN_cX11_choose (by decide +kernel)
theorem dX11_choose_6 : decode cX11_choose 6 = .ok (.istore_n 1, 1) := op_60 nN_cX11_choose (by decide +kernel)
theorem dX11_choose_7 : decode cX11_choose 7 = .ok (.iload_n 1, 1) := op_27 nN_cX11_choose (by decide +kernel)
theorem dX11_choose_8 : decode cX11_choose 8 = .ok (.aload_n 0, 1) := op_42 nN_cX11_choose (by decide +kernel)
theorem dX11_choose_9 : decode cX11_choose 9 = .ok (.getfield 130, 3) := op_180 nN_cX11_choose (by decide +kernel)
theorem dX11_choose_12 : decode cX11_choose 12 = .ok (.if_icmp .ge 35, 3) := op_162 nN_cX11_choose (by decide +kernel)
theorem dX11_choose_15 : decode cX11_choose 15 = .ok (.aload_n 0, 1) := op_42 nN_cX11_choose (by decide +kernel)
theorem dX11_choose_16 : decode cX11_choose 16 = .ok (.getfield 107, 3) := op_180 nN_cX11_choose (by decide +kernel)
theorem dX11_choose_19 : decode cX11_choose 19 = .ok (.iload_n 1, 1) := op_27 nN_cX11_choose (by decide +kernel)
theorem dX11_choose_20 : decode cX11_choose 20 = .ok (.iconst 0, 1) := op_3 nN_cX11_choose (by decide +kernel)
theorem dX11_choose_21 : decode cX11_choose 21 = .ok (.bastore, 1) := op_84 nN_cX11_choose (by decide +kernel)
theorem dX11_choose_22 : decode cX11_choose 22 = .ok (.aload_n 0, 1) := op_42 nN_cX11_choose (by decide +kernel)
theorem dX11_choose_23 : decode cX11_choose 23 = .ok (.getfield 92, 3) := op_180 nN_cX11_choose (by decide +kernel)
theorem dX11_choose_26 : decode cX11_choose 26 = .ok (.iload_n 1, 1) := op_27 nN_cX11_choose (by decide +kernel)
theorem dX11_choose_27 : decode cX11_choose 27 = .ok (.aload_n 0, 1) := op_42 nN_cX11_choose (by decide +kernel)
theorem dX11_choose_28 : decode cX11_choose 28 = .ok (.iload_n 1, 1) := op_27 nN_cX11_choose (by decide +kernel)
theorem dX11_choose_29 : decode cX11_choose 29 = .ok (.invokevirtual 410, 3) := op_182 nN_cX11_choose (by decide +kernel)
theorem dX11_choose_32 : decode cX11_choose 32 = .ok (.ifCond .ne 7, 3) := op_154 nN_cX11_choose (by decide +kernel)
theorem dX11_choose_35 : decode cX11_choose 35 = .ok (.iconst 1, 1) := op_4 nN_cX11_choose (by decide +kernel)
theorem dX11_choose_36 : decode cX11_choose 36 = .ok (.goto 4, 3) := op_167 nN_cX11_choose (by decide +kernel)
theorem dX11_choose_39 : decode cX11_choose 39 = .ok (.iconst 0, 1) := op_3 nN_cX11_choose (by decide +kernel)
theorem dX11_choose_40 : decode cX11_choose 40 = .ok (.bastore, 1) := op_84 nN_cX11_choose (by decide +kernel)
theorem dX11_choose_41 : decode cX11_choose 41 = .ok (.iinc 1 1, 3) := op_132 nN_cX11_choose (by decide +kernel)
theorem dX11_choose_44 : decode cX11_choose 44 = .ok (.goto (-37), 3) := op_167 nN_cX11_choose (by decide +kernel)
theorem dX11_choose_47 : decode cX11_choose 47 = .ok (.iconst 0, 1) := op_3 nN_cX11_choose (by decide +kernel)
theorem dX11_choose_48 : decode cX11_choose 48 = .ok (.istore_n 1, 1) := op_60 nN_cX11_choose (by decide +kernel)
theorem dX11_choose_49 : decode cX11_choose 49 = .ok (.iload_n 1, 1) := op_27 nN_cX11_choose (by decide +kernel)
theorem dX11_choose_50 : decode cX11_choose 50 = .ok (.aload_n 0, 1) := op_42 nN_cX11_choose (by decide +kernel)
theorem dX11_choose_51 : decode cX11_choose 51 = .ok (.getfield 130, 3) := op_180 nN_cX11_choose (by decide +kernel)
theorem dX11_choose_54 : decode cX11_choose 54 = .ok (.if_icmp .ge 205, 3) := op_162 nN_cX11_choose (by decide +kernel)
theorem dX11_choose_57 : decode cX11_choose 57 = .ok (.iconst (-1), 1) := op_2 nN_cX11_choose (by decide +kernel)
theorem dX11_choose_58 : decode cX11_choose 58 = .ok (.istore_n 2, 1) := op_61 nN_cX11_choose (by decide +kernel)
theorem dX11_choose_59 : decode cX11_choose 59 = .ok (.iconst 0, 1) := op_3 nN_cX11_choose (by decide +kernel)
theorem dX11_choose_60 : decode cX11_choose 60 = .ok (.istore_n 3, 1) := op_62 nN_cX11_choose (by decide +kernel)
theorem dX11_choose_61 : decode cX11_choose 61 = .ok (.iload_n 3, 1) := op_29 nN_cX11_choose (by decide +kernel)
theorem dX11_choose_62 : decode cX11_choose 62 = .ok (.aload_n 0, 1) := op_42 nN_cX11_choose (by decide +kernel)
theorem dX11_choose_63 : decode cX11_choose 63 = .ok (.getfield 130, 3) := op_180 nN_cX11_choose (by decide +kernel)
theorem dX11_choose_66 : decode cX11_choose 66 = .ok (.if_icmp .ge 39, 3) := op_162 nN_cX11_choose (by decide +kernel)
theorem dX11_choose_69 : decode cX11_choose 69 = .ok (.aload_n 0, 1) := op_42 nN_cX11_choose (by decide +kernel)
theorem dX11_choose_70 : decode cX11_choose 70 = .ok (.getfield 92, 3) := op_180 nN_cX11_choose (by decide +kernel)
theorem dX11_choose_73 : decode cX11_choose 73 = .ok (.iload_n 3, 1) := op_29 nN_cX11_choose (by decide +kernel)
theorem dX11_choose_74 : decode cX11_choose 74 = .ok (.baload, 1) := op_51 nN_cX11_choose (by decide +kernel)
theorem dX11_choose_75 : decode cX11_choose 75 = .ok (.ifCond .ne 24, 3) := op_154 nN_cX11_choose (by decide +kernel)
theorem dX11_choose_78 : decode cX11_choose 78 = .ok (.iload_n 2, 1) := op_28 nN_cX11_choose (by decide +kernel)
theorem dX11_choose_79 : decode cX11_choose 79 = .ok (.iconst (-1), 1) := op_2 nN_cX11_choose (by decide +kernel)
theorem dX11_choose_80 : decode cX11_choose 80 = .ok (.if_icmp .eq 17, 3) := op_159 nN_cX11_choose (by decide +kernel)
theorem dX11_choose_83 : decode cX11_choose 83 = .ok (.aload_n 0, 1) := op_42 nN_cX11_choose (by decide +kernel)
theorem dX11_choose_84 : decode cX11_choose 84 = .ok (.iload_n 3, 1) := op_29 nN_cX11_choose (by decide +kernel)
theorem dX11_choose_85 : decode cX11_choose 85 = .ok (.invokevirtual 413, 3) := op_182 nN_cX11_choose (by decide +kernel)
theorem dX11_choose_88 : decode cX11_choose 88 = .ok (.aload_n 0, 1) := op_42 nN_cX11_choose (by decide +kernel)
theorem dX11_choose_89 : decode cX11_choose 89 = .ok (.iload_n 2, 1) := op_28 nN_cX11_choose (by decide +kernel)
theorem dX11_choose_90 : decode cX11_choose 90 = .ok (.invokevirtual 413, 3) := op_182 nN_cX11_choose (by decide +kernel)
theorem dX11_choose_93 : decode cX11_choose 93 = .ok (.lcmp, 1) := op_148 nN_cX11_choose (by decide +kernel)
theorem dX11_choose_94 : decode cX11_choose 94 = .ok (.ifCond .ge 5, 3) := op_156 nN_cX11_choose (by decide +kernel)
theorem dX11_choose_97 : decode cX11_choose 97 = .ok (.iload_n 3, 1) := op_29 nN_cX11_choose (by decide +kernel)
theorem dX11_choose_98 : decode cX11_choose 98 = .ok (.istore_n 2, 1) := op_61 nN_cX11_choose (by decide +kernel)
theorem dX11_choose_99 : decode cX11_choose 99 = .ok (.iinc 3 1, 3) := op_132 nN_cX11_choose (by decide +kernel)
theorem dX11_choose_102 : decode cX11_choose 102 = .ok (.goto (-41), 3) := op_167 nN_cX11_choose (by decide +kernel)
theorem dX11_choose_105 : decode cX11_choose 105 = .ok (.iload_n 2, 1) := op_28 nN_cX11_choose (by decide +kernel)
theorem dX11_choose_106 : decode cX11_choose 106 = .ok (.iconst (-1), 1) := op_2 nN_cX11_choose (by decide +kernel)
theorem dX11_choose_107 : decode cX11_choose 107 = .ok (.if_icmp .ne 6, 3) := op_160 nN_cX11_choose (by decide +kernel)
theorem dX11_choose_110 : decode cX11_choose 110 = .ok (.goto 149, 3) := op_167 nN_cX11_choose (by decide +kernel)
theorem dX11_choose_113 : decode cX11_choose 113 = .ok (.aload_n 0, 1) := op_42 nN_cX11_choose (by decide +kernel)
theorem dX11_choose_114 : decode cX11_choose 114 = .ok (.getfield 92, 3) := op_180 nN_cX11_choose (by decide +kernel)
theorem dX11_choose_117 : decode cX11_choose 117 = .ok (.iload_n 2, 1) := op_28 nN_cX11_choose (by decide +kernel)
theorem dX11_choose_118 : decode cX11_choose 118 = .ok (.iconst 1, 1) := op_4 nN_cX11_choose (by decide +kernel)
theorem dX11_choose_119 : decode cX11_choose 119 = .ok (.bastore, 1) := op_84 nN_cX11_choose (by decide +kernel)
theorem dX11_choose_120 : decode cX11_choose 120 = .ok (.aload_n 0, 1) := op_42 nN_cX11_choose (by decide +kernel)
theorem dX11_choose_121 : decode cX11_choose 121 = .ok (.getfield 116, 3) := op_180 nN_cX11_choose (by decide +kernel)
theorem dX11_choose_124 : decode cX11_choose 124 = .ok (.aload_n 0, 1) := op_42 nN_cX11_choose (by decide +kernel)
theorem dX11_choose_125 : decode cX11_choose 125 = .ok (.aload_n 0, 1) := op_42 nN_cX11_choose (by decide +kernel)
theorem dX11_choose_126 : decode cX11_choose 126 = .ok (.getfield 44, 3) := op_180 nN_cX11_choose (by decide +kernel)
theorem dX11_choose_129 : decode cX11_choose 129 = .ok (.bipush 40, 2) := op_16 nN_cX11_choose (by decide +kernel)
theorem dX11_choose_131 : decode cX11_choose 131 = .ok (.iload_n 2, 1) := op_28 nN_cX11_choose (by decide +kernel)
theorem dX11_choose_132 : decode cX11_choose 132 = .ok (.imul, 1) := op_104 nN_cX11_choose (by decide +kernel)
theorem dX11_choose_133 : decode cX11_choose 133 = .ok (.iaload, 1) := op_46 nN_cX11_choose (by decide +kernel)
theorem dX11_choose_134 : decode cX11_choose 134 = .ok (.aload_n 0, 1) := op_42 nN_cX11_choose (by decide +kernel)
theorem dX11_choose_135 : decode cX11_choose 135 = .ok (.getfield 47, 3) := op_180 nN_cX11_choose (by decide +kernel)
theorem dX11_choose_138 : decode cX11_choose 138 = .ok (.bipush 40, 2) := op_16 nN_cX11_choose (by decide +kernel)
theorem dX11_choose_140 : decode cX11_choose 140 = .ok (.iload_n 2, 1) := op_28 nN_cX11_choose (by decide +kernel)
theorem dX11_choose_141 : decode cX11_choose 141 = .ok (.imul, 1) := op_104 nN_cX11_choose (by decide +kernel)
theorem dX11_choose_142 : decode cX11_choose 142 = .ok (.iaload, 1) := op_46 nN_cX11_choose (by decide +kernel)
theorem dX11_choose_143 : decode cX11_choose 143 = .ok (.invokevirtual 416, 3) := op_182 nN_cX11_choose (by decide +kernel)
theorem dX11_choose_146 : decode cX11_choose 146 = .ok (.iaload, 1) := op_46 nN_cX11_choose (by decide +kernel)
theorem dX11_choose_147 : decode cX11_choose 147 = .ok (.istore_n 3, 1) := op_62 nN_cX11_choose (by decide +kernel)
theorem dX11_choose_148 : decode cX11_choose 148 = .ok (.bipush 40, 2) := op_16 nN_cX11_choose (by decide +kernel)
theorem dX11_choose_150 : decode cX11_choose 150 = .ok (.iload_n 2, 1) := op_28 nN_cX11_choose (by decide +kernel)
theorem dX11_choose_151 : decode cX11_choose 151 = .ok (.imul, 1) := op_104 nN_cX11_choose (by decide +kernel)
theorem dX11_choose_152 : decode cX11_choose 152 = .ok (.aload_n 0, 1) := op_42 nN_cX11_choose (by decide +kernel)
theorem dX11_choose_153 : decode cX11_choose 153 = .ok (.getfield 41, 3) := op_180 nN_cX11_choose (by decide +kernel)
theorem dX11_choose_156 : decode cX11_choose 156 = .ok (.iload_n 2, 1) := op_28 nN_cX11_choose (by decide +kernel)
theorem dX11_choose_157 : decode cX11_choose 157 = .ok (.iaload, 1) := op_46 nN_cX11_choose (by decide +kernel)
theorem dX11_choose_158 : decode cX11_choose 158 = .ok (.iadd, 1) := op_96 nN_cX11_choose (by decide +kernel)
theorem dX11_choose_159 : decode cX11_choose 159 = .ok (.iconst 1, 1) := op_4 nN_cX11_choose (by decide +kernel)
theorem dX11_choose_160 : decode cX11_choose 160 = .ok (.isub, 1) := op_100 nN_cX11_choose (by decide +kernel)
theorem dX11_choose_161 : decode cX11_choose 161 = .ok (.istore 4, 2) := op_54 nN_cX11_choose (by decide +kernel)
theorem dX11_choose_163 : decode cX11_choose 163 = .ok (.aload_n 0, 1) := op_42 nN_cX11_choose (by decide +kernel)
theorem dX11_choose_164 : decode cX11_choose 164 = .ok (.getfield 116, 3) := op_180 nN_cX11_choose (by decide +kernel)
theorem dX11_choose_167 : decode cX11_choose 167 = .ok (.aload_n 0, 1) := op_42 nN_cX11_choose (by decide +kernel)
theorem dX11_choose_168 : decode cX11_choose 168 = .ok (.aload_n 0, 1) := op_42 nN_cX11_choose (by decide +kernel)
theorem dX11_choose_169 : decode cX11_choose 169 = .ok (.getfield 44, 3) := op_180 nN_cX11_choose (by decide +kernel)
theorem dX11_choose_172 : decode cX11_choose 172 = .ok (.iload 4, 2) := op_21 nN_cX11_choose (by decide +kernel)
theorem dX11_choose_174 : decode cX11_choose 174 = .ok (.iaload, 1) := op_46 nN_cX11_choose (by decide +kernel)
theorem dX11_choose_175 : decode cX11_choose 175 = .ok (.aload_n 0, 1) := op_42 nN_cX11_choose (by decide +kernel)
theorem dX11_choose_176 : decode cX11_choose 176 = .ok (.getfield 47, 3) := op_180 nN_cX11_choose (by decide +kernel)
theorem dX11_choose_179 : decode cX11_choose 179 = .ok (.iload 4, 2) := op_21 nN_cX11_choose (by decide +kernel)
theorem dX11_choose_181 : decode cX11_choose 181 = .ok (.iaload, 1) := op_46 nN_cX11_choose (by decide +kernel)
theorem dX11_choose_182 : decode cX11_choose 182 = .ok (.invokevirtual 416, 3) := op_182 nN_cX11_choose (by decide +kernel)
theorem dX11_choose_185 : decode cX11_choose 185 = .ok (.iaload, 1) := op_46 nN_cX11_choose (by decide +kernel)
theorem dX11_choose_186 : decode cX11_choose 186 = .ok (.istore 5, 2) := op_54 nN_cX11_choose (by decide +kernel)
theorem dX11_choose_188 : decode cX11_choose 188 = .ok (.aload_n 0, 1) := op_42 nN_cX11_choose (by decide +kernel)
theorem dX11_choose_189 : decode cX11_choose 189 = .ok (.getfield 107, 3) := op_180 nN_cX11_choose (by decide +kernel)
theorem dX11_choose_192 : decode cX11_choose 192 = .ok (.iload_n 2, 1) := op_28 nN_cX11_choose (by decide +kernel)
theorem dX11_choose_193 : decode cX11_choose 193 = .ok (.iload_n 3, 1) := op_29 nN_cX11_choose (by decide +kernel)
theorem dX11_choose_194 : decode cX11_choose 194 = .ok (.iload 5, 2) := op_21 nN_cX11_choose (by decide +kernel)
theorem dX11_choose_196 : decode cX11_choose 196 = .ok (.if_icmp .ne 7, 3) := op_160 nN_cX11_choose (by decide +kernel)
theorem dX11_choose_199 : decode cX11_choose 199 = .ok (.iconst 1, 1) := op_4 nN_cX11_choose (by decide +kernel)
theorem dX11_choose_200 : decode cX11_choose 200 = .ok (.goto 4, 3) := op_167 nN_cX11_choose (by decide +kernel)
theorem dX11_choose_203 : decode cX11_choose 203 = .ok (.iconst 0, 1) := op_3 nN_cX11_choose (by decide +kernel)
theorem dX11_choose_204 : decode cX11_choose 204 = .ok (.bastore, 1) := op_84 nN_cX11_choose (by decide +kernel)
theorem dX11_choose_205 : decode cX11_choose 205 = .ok (.iconst 0, 1) := op_3 nN_cX11_choose (by decide +kernel)
theorem dX11_choose_206 : decode cX11_choose 206 = .ok (.istore 6, 2) := op_54 nN_cX11_choose (by decide +kernel)
theorem dX11_choose_208 : decode cX11_choose 208 = .ok (.iload 6, 2) := op_21 nN_cX11_choose (by decide +kernel)
theorem dX11_choose_210 : decode cX11_choose 210 = .ok (.aload_n 0, 1) := op_42 nN_cX11_choose (by decide +kernel)
theorem dX11_choose_211 : decode cX11_choose 211 = .ok (.getfield 404, 3) := op_180 nN_cX11_choose (by decide +kernel)
theorem dX11_choose_214 : decode cX11_choose 214 = .ok (.if_icmp .ge 39, 3) := op_162 nN_cX11_choose (by decide +kernel)
theorem dX11_choose_217 : decode cX11_choose 217 = .ok (.aload_n 0, 1) := op_42 nN_cX11_choose (by decide +kernel)
theorem dX11_choose_218 : decode cX11_choose 218 = .ok (.getfield 116, 3) := op_180 nN_cX11_choose (by decide +kernel)
theorem dX11_choose_221 : decode cX11_choose 221 = .ok (.iload 6, 2) := op_21 nN_cX11_choose (by decide +kernel)
theorem dX11_choose_223 : decode cX11_choose 223 = .ok (.aload_n 0, 1) := op_42 nN_cX11_choose (by decide +kernel)
theorem dX11_choose_224 : decode cX11_choose 224 = .ok (.getfield 116, 3) := op_180 nN_cX11_choose (by decide +kernel)
theorem dX11_choose_227 : decode cX11_choose 227 = .ok (.iload 6, 2) := op_21 nN_cX11_choose (by decide +kernel)
theorem dX11_choose_229 : decode cX11_choose 229 = .ok (.iaload, 1) := op_46 nN_cX11_choose (by decide +kernel)
theorem dX11_choose_230 : decode cX11_choose 230 = .ok (.iload 5, 2) := op_21 nN_cX11_choose (by decide +kernel)
theorem dX11_choose_232 : decode cX11_choose 232 = .ok (.if_icmp .ne 7, 3) := op_160 nN_cX11_choose (by decide +kernel)
theorem dX11_choose_235 : decode cX11_choose 235 = .ok (.iload_n 3, 1) := op_29 nN_cX11_choose (by decide +kernel)
theorem dX11_choose_236 : decode cX11_choose 236 = .ok (.goto 10, 3) := op_167 nN_cX11_choose (by decide +kernel)
theorem dX11_choose_239 : decode cX11_choose 239 = .ok (.aload_n 0, 1) := op_42 nN_cX11_choose (by decide +kernel)
theorem dX11_choose_240 : decode cX11_choose 240 = .ok (.getfield 116, 3) := op_180 nN_cX11_choose (by decide +kernel)
theorem dX11_choose_243 : decode cX11_choose 243 = .ok (.iload 6, 2) := op_21 nN_cX11_choose (by decide +kernel)
theorem dX11_choose_245 : decode cX11_choose 245 = .ok (.iaload, 1) := op_46 nN_cX11_choose (by decide +kernel)
theorem dX11_choose_246 : decode cX11_choose 246 = .ok (.iastore, 1) := op_79 nN_cX11_choose (by decide +kernel)
theorem dX11_choose_247 : decode cX11_choose 247 = .ok (.iinc 6 1, 3) := op_132 nN_cX11_choose (by decide +kernel)
theorem dX11_choose_250 : decode cX11_choose 250 = .ok (.goto (-42), 3) := op_167 nN_cX11_choose (by decide +kernel)
theorem dX11_choose_253 : decode cX11_choose 253 = .ok (.iinc 1 1, 3) := op_132 nN_cX11_choose (by decide +kernel)
theorem dX11_choose_256 : decode cX11_choose 256 = .ok (.goto (-207), 3) := op_167 nN_cX11_choose (by decide +kernel)
theorem dX11_choose_259 : decode cX11_choose 259 = .ok (.aload_n 0, 1) := op_42 nN_cX11_choose (by decide +kernel)
theorem dX11_choose_260 : decode cX11_choose 260 = .ok (.bipush 9, 2) := op_16 nN_cX11_choose (by decide +kernel)
theorem dX11_choose_262 : decode cX11_choose 262 = .ok (.invokevirtual 401, 3) := op_182 nN_cX11_choose (by decide +kernel)
theorem dX11_choose_265 : decode cX11_choose 265 = .ok (.ireturn, 1) := op_172 nN_cX11_choose (by decide +kernel)
theorem nN_cX11_undo : onN cX11_undo.data.toList = 0x2b4c205010096a2b3c0056c0415a9004b73281404b51580804b5158ac10025b1840a08012d4b42b010096c650280804b52d0ad5a7f00adc12111582c02a1028096a2b010096a2b := by decide +kernel
theorem dX11_undo_0 : decode cX11_undo 0 = .ok (.aload_n 0, 1) := op_42 nN_cX11_undo (by decide +kernel)
theorem dX11_undo_1 : decode cX11_undo 1 = .ok (.getfield 257, 3) := op_180 nN_cX11_undo (by decide +kernel)
theorem dX11_undo_4 : decode cX11_undo 4 = .ok (.aload_n 0, 1) := op_42 nN_cX11_undo (by decide +kernel)
theorem dX11_undo_5 : decode cX11_undo 5 = .ok (.getfield 260, 3) := op_180 nN_cX11_undo (by decide +kernel)
theorem dX11_undo_8 : decode cX11_undo 8 = .ok (.if_icmp .ne 10, 3) := op_160 nN_cX11_undo (by decide +kernel)
theorem dX11_undo_11 : decode cX11_undo 11 = .ok (.aload_n 0, 1) := op_42 nN_cX11_undo (by decide +kernel)
theorem dX11_undo_12 : decode cX11_undo 12 = .ok (.bipush 8, 2) := op_16 nN_cX11_undo (by decide +kernel)
theorem dX11_undo_14 : decode cX11_undo 14 = .ok (.invokevirtual 126, 3) := op_182 nN_cX11_undo (by decide +kernel)
theorem dX11_undo_17 : decode cX11_undo 17 = .ok (.ireturn, 1) := op_172 nN_cX11_undo (by decide +kernel)
theorem dX11_undo_18 : decode cX11_undo 18 = .ok (.aload_n 0, 1) := op_42 nN_cX11_undo (by decide +kernel)
theorem dX11_undo_19 : decode cX11_undo 19 = .ok (.dup, 1) := op_89 nN_cX11_undo (by decide +kernel)
theorem dX11_undo_20 : decode cX11_undo 20 = .ok (.getfield 257, 3) := op_180 nN_cX11_undo (by decide +kernel)
theorem dX11_undo_23 : decode cX11_undo 23 = .ok (.iconst 1, 1) := op_4 nN_cX11_undo (by decide +kernel)
theorem dX11_undo_24 : decode cX11_undo 24 = .ok (.isub, 1) := op_100 nN_cX11_undo (by decide +kernel)
theorem dX11_undo_25 : decode cX11_undo 25 = .ok (.putfield 257, 3) := op_181 nN_cX11_undo (by decide +kernel)
theorem dX11_undo_28 : decode cX11_undo 28 = .ok (.aload_n 0, 1) := op_42 nN_cX11_undo (by decide +kernel)
theorem dX11_undo_29 : decode cX11_undo 29 = .ok (.dup, 1) := op_89 nN_cX11_undo (by decide +kernel)
theorem dX11_undo_30 : decode cX11_undo 30 = .ok (.getfield 263, 3) := op_180 nN_cX11_undo (by decide +kernel)
theorem dX11_undo_33 : decode cX11_undo 33 = .ok (.iconst 1, 1) := op_4 nN_cX11_undo (by decide +kernel)
theorem dX11_undo_34 : decode cX11_undo 34 = .ok (.iadd, 1) := op_96 nN_cX11_undo (by decide +kernel)
theorem dX11_undo_35 : decode cX11_undo 35 = .ok (.putfield 263, 3) := op_181 nN_cX11_undo (by decide +kernel)
theorem dX11_undo_38 : decode cX11_undo 38 = .ok (.aload_n 0, 1) := op_42 nN_cX11_undo (by decide +kernel)
theorem dX11_undo_39 : decode cX11_undo 39 = .ok (.aload_n 0, 1) := op_42 nN_cX11_undo (by decide +kernel)
theorem dX11_undo_40 : decode cX11_undo 40 = .ok (.getfield 257, 3) := op_180 nN_cX11_undo (by decide +kernel)
theorem dX11_undo_43 : decode cX11_undo 43 = .ok (.aload_n 0, 1) := op_42 nN_cX11_undo (by decide +kernel)
theorem dX11_undo_44 : decode cX11_undo 44 = .ok (.getfield 260, 3) := op_180 nN_cX11_undo (by decide +kernel)
theorem dX11_undo_47 : decode cX11_undo 47 = .ok (.isub, 1) := op_100 nN_cX11_undo (by decide +kernel)
theorem dX11_undo_48 : decode cX11_undo 48 = .ok (.invokevirtual 419, 3) := op_182 nN_cX11_undo (by decide +kernel)
theorem dX11_undo_51 : decode cX11_undo 51 = .ok (.aload_n 0, 1) := op_42 nN_cX11_undo (by decide +kernel)
theorem dX11_undo_52 : decode cX11_undo 52 = .ok (.iconst 0, 1) := op_3 nN_cX11_undo (by decide +kernel)
theorem dX11_undo_53 : decode cX11_undo 53 = .ok (.putfield 119, 3) := op_181 nN_cX11_undo (by decide +kernel)
theorem dX11_undo_56 : decode cX11_undo 56 = .ok (.aload_n 0, 1) := op_42 nN_cX11_undo (by decide +kernel)
theorem dX11_undo_57 : decode cX11_undo 57 = .ok (.getfield 257, 3) := op_180 nN_cX11_undo (by decide +kernel)
theorem dX11_undo_60 : decode cX11_undo 60 = .ok (.iconst 1, 1) := op_4 nN_cX11_undo (by decide +kernel)
theorem dX11_undo_61 : decode cX11_undo 61 = .ok (.iadd, 1) := op_96 nN_cX11_undo (by decide +kernel)
theorem dX11_undo_62 : decode cX11_undo 62 = .ok (.ireturn, 1) := op_172 nN_cX11_undo (by decide +kernel)
theorem nN_cX11_redo : onN cX11_redo.data.toList = 0xad010096a2b3c0056c0415a9004b73281404b51580804b5158ac10025b1940a08012d4b42b010096c610280804b52d0ad5a7f00adc12111582c029b040096a2b := by decide +kernel
theorem dX11_redo_0 : decode cX11_redo 0 = .ok (.aload_n 0, 1) := op_42 nN_cX11_redo (by decide +kernel)
theorem dX11_redo_1 : decode cX11_redo 1 = .ok (.getfield 263, 3) := op_180 nN_cX11_redo (by decide +kernel)
theorem dX11_redo_4 : decode cX11_redo 4 = .ok (.ifCond .ne 10, 3) := op_154 nN_cX11_redo (by decide +kernel)
theorem dX11_redo_7 : decode cX11_redo 7 = .ok (.aload_n 0, 1) := op_42 nN_cX11_redo (by decide +kernel)
theorem dX11_redo_8 : decode cX11_redo 8 = .ok (.bipush 8, 2) := op_16 nN_cX11_redo (by decide +kernel)
theorem dX11_redo_10 : decode cX11_redo 10 = .ok (.invokevirtual 126, 3) := op_182 nN_cX11_redo (by decide +kernel)
theorem dX11_redo_13 : decode cX11_redo 13 = .ok (.ireturn, 1) := op_172 nN_cX11_redo (by decide +kernel)
theorem dX11_redo_14 : decode cX11_redo 14 = .ok (.aload_n 0, 1) := op_42 nN_cX11_redo (by decide +kernel)
theorem dX11_redo_15 : decode cX11_redo 15 = .ok (.dup, 1) := op_89 nN_cX11_redo (by decide +kernel)
theorem dX11_redo_16 : decode cX11_redo 16 = .ok (.getfield 257, 3) := op_180 nN_cX11_redo (by decide +kernel)
theorem dX11_redo_19 : decode cX11_redo 19 = .ok (.iconst 1, 1) := op_4 nN_cX11_redo (by decide +kernel)
theorem dX11_redo_20 : decode cX11_redo 20 = .ok (.iadd, 1) := op_96 nN_cX11_redo (by decide +kernel)
theorem dX11_redo_21 : decode cX11_redo 21 = .ok (.putfield 257, 3) := op_181 nN_cX11_redo (by decide +kernel)
theorem dX11_redo_24 : decode cX11_redo 24 = .ok (.aload_n 0, 1) := op_42 nN_cX11_redo (by decide +kernel)
theorem dX11_redo_25 : decode cX11_redo 25 = .ok (.dup, 1) := op_89 nN_cX11_redo (by decide +kernel)
theorem dX11_redo_26 : decode cX11_redo 26 = .ok (.getfield 263, 3) := op_180 nN_cX11_redo (by decide +kernel)
theorem dX11_redo_29 : decode cX11_redo 29 = .ok (.iconst 1, 1) := op_4 nN_cX11_redo (by decide +kernel)
theorem dX11_redo_30 : decode cX11_redo 30 = .ok (.isub, 1) := op_100 nN_cX11_redo (by decide +kernel)
theorem dX11_redo_31 : decode cX11_redo 31 = .ok (.putfield 263, 3) := op_181 nN_cX11_redo (by decide +kernel)
theorem dX11_redo_34 : decode cX11_redo 34 = .ok (.aload_n 0, 1) := op_42 nN_cX11_redo (by decide +kernel)
theorem dX11_redo_35 : decode cX11_redo 35 = .ok (.aload_n 0, 1) := op_42 nN_cX11_redo (by decide +kernel)
theorem dX11_redo_36 : decode cX11_redo 36 = .ok (.getfield 257, 3) := op_180 nN_cX11_redo (by decide +kernel)
theorem dX11_redo_39 : decode cX11_redo 39 = .ok (.aload_n 0, 1) := op_42 nN_cX11_redo (by decide +kernel)
theorem dX11_redo_40 : decode cX11_redo 40 = .ok (.getfield 260, 3) := op_180 nN_cX11_redo (by decide +kernel)
theorem dX11_redo_43 : decode cX11_redo 43 = .ok (.isub, 1) := op_100 nN_cX11_redo (by decide +kernel)
theorem dX11_redo_44 : decode cX11_redo 44 = .ok (.invokevirtual 419, 3) := op_182 nN_cX11_redo (by decide +kernel)
theorem dX11_redo_47 : decode cX11_redo 47 = .ok (.aload_n 0, 1) := op_42 nN_cX11_redo (by decide +kernel)
theorem dX11_redo_48 : decode cX11_redo 48 = .ok (.iconst 0, 1) := op_3 nN_cX11_redo (by decide +kernel)
theorem dX11_redo_49 : decode cX11_redo 49 = .ok (.putfield 119, 3) := op_181 nN_cX11_redo (by decide +kernel)
theorem dX11_redo_52 : decode cX11_redo 52 = .ok (.aload_n 0, 1) := op_42 nN_cX11_redo (by decide +kernel)
theorem dX11_redo_53 : decode cX11_redo 53 = .ok (.getfield 257, 3) := op_180 nN_cX11_redo (by decide +kernel)
theorem dX11_redo_56 : decode cX11_redo 56 = .ok (.ireturn, 1) := op_172 nN_cX11_redo (by decide +kernel)
theorem nN_cX11_meets : onN cX11_meets.data.toList = 0x2b4080500aa00a0800a6992015b874382b0880534c600adc3a2b0c80534c600adc382b := by decide +kernel
theorem dX11_meets_0 : decode cX11_meets 0 = .ok (.aload_n 0, 1) := op_42 nN_cX11_meets (by decide +kernel)
theorem dX11_meets_1 : decode cX11_meets 1 = .ok (.iload_n 1, 1) := op_27 nN_cX11_meets (by decide +kernel)
theorem dX11_meets_2 : decode cX11_meets 2 = .ok (.invokevirtual 197, 3) := op_182 nN_cX11_meets (by decide +kernel)
theorem dX11_meets_5 : decode cX11_meets 5 = .ok (.ifCond .eq 24, 3) := op_153 nN_cX11_meets (by decide +kernel)
theorem dX11_meets_8 : decode cX11_meets 8 = .ok (.aload_n 0, 1) := op_42 nN_cX11_meets (by decide +kernel)
theorem dX11_meets_9 : decode cX11_meets 9 = .ok (.iload_n 2, 1) := op_28 nN_cX11_meets (by decide +kernel)
theorem dX11_meets_10 : decode cX11_meets 10 = .ok (.invokevirtual 197, 3) := op_182 nN_cX11_meets (by decide +kernel)
theorem dX11_meets_13 : decode cX11_meets 13 = .ok (.ifCond .eq 16, 3) := op_153 nN_cX11_meets (by decide +kernel)
theorem dX11_meets_16 : decode cX11_meets 16 = .ok (.aload_n 0, 1) := op_42 nN_cX11_meets (by decide +kernel)
theorem dX11_meets_17 : decode cX11_meets 17 = .ok (.iload_n 1, 1) := op_27 nN_cX11_meets (by decide +kernel)
theorem dX11_meets_18 : decode cX11_meets 18 = .ok (.iload_n 2, 1) := op_28 nN_cX11_meets (by decide +kernel)
theorem dX11_meets_19 : decode cX11_meets 19 = .ok (.invokevirtual 200, 3) := op_182 nN_cX11_meets (by decide +kernel)
theorem dX11_meets_22 : decode cX11_meets 22 = .ok (.ifCond .eq 7, 3) := op_153 nN_cX11_meets (by decide +kernel)
theorem dX11_meets_25 : decode cX11_meets 25 = .ok (.iconst 1, 1) := op_4 nN_cX11_meets (by decide +kernel)
theorem dX11_meets_26 : decode cX11_meets 26 = .ok (.goto 4, 3) := op_167 nN_cX11_meets (by decide +kernel)
theorem dX11_meets_29 : decode cX11_meets 29 = .ok (.iconst 0, 1) := op_3 nN_cX11_meets (by decide +kernel)
theorem dX11_meets_30 : decode cX11_meets 30 = .ok (.ireturn, 1) := op_172 nN_cX11_meets (by decide +kernel)
theorem nN_cX11_inside : onN cX11_inside.data.toList = 0x15a040280550050400534cd00adc3a1c0f0ac26015401810014d2c002b70e8703c2b5680c0c0152ba408120e82c029c0e83c02a474810241c0b005381c0d00534a200adc3c2b1100534c600adc3c2b := by decide +kernel
theorem dX11_inside_0 : decode cX11_inside 0 = .ok (.aload_n 0, 1) := op_42 nN_cX11_inside (by decide +kernel)
theorem dX11_inside_1 : decode cX11_inside 1 = .ok (.iload_n 3, 1) := op_29 nN_cX11_inside (by decide +kernel)
theorem dX11_inside_2 : decode cX11_inside 2 = .ok (.invokevirtual 197, 3) := op_182 nN_cX11_inside (by decide +kernel)
theorem dX11_inside_5 : decode cX11_inside 5 = .ok (.ifCond .eq 33, 3) := op_153 nN_cX11_inside (by decide +kernel)
theorem dX11_inside_8 : decode cX11_inside 8 = .ok (.aload_n 0, 1) := op_42 nN_cX11_inside (by decide +kernel)
theorem dX11_inside_9 : decode cX11_inside 9 = .ok (.iload_n 3, 1) := op_29 nN_cX11_inside (by decide +kernel)
theorem dX11_inside_10 : decode cX11_inside 10 = .ok (.invokevirtual 161, 3) := op_182 nN_cX11_inside (by decide +kernel)
theorem dX11_inside_13 : decode cX11_inside 13 = .ok (.ifCond .eq 25, 3) := op_153 nN_cX11_inside (by decide +kernel)
theorem dX11_inside_16 : decode cX11_inside 16 = .ok (.iload_n 1, 1) := op_27 nN_cX11_inside (by decide +kernel)
theorem dX11_inside_17 : decode cX11_inside 17 = .ok (.ifCond .lt 21, 3) := op_155 nN_cX11_inside (by decide +kernel)
theorem dX11_inside_20 : decode cX11_inside 20 = .ok (.iload_n 1, 1) := op_27 nN_cX11_inside (by decide +kernel)
theorem dX11_inside_21 : decode cX11_inside 21 = .ok (.sipush 1000, 3) := op_17 nN_cX11_inside (by decide +kernel)
theorem dX11_inside_24 : decode cX11_inside 24 = .ok (.if_icmp .gt 14, 3) := op_163 nN_cX11_inside (by decide +kernel)
theorem dX11_inside_27 : decode cX11_inside 27 = .ok (.iload_n 2, 1) := op_28 nN_cX11_inside (by decide +kernel)
theorem dX11_inside_28 : decode cX11_inside 28 = .ok (.ifCond .lt 10, 3) := op_155 nN_cX11_inside (by decide +kernel)
theorem dX11_inside_31 : decode cX11_inside 31 = .ok (.iload_n 2, 1) := op_28 nN_cX11_inside (by decide +kernel)
theorem dX11_inside_32 : decode cX11_inside 32 = .ok (.sipush 1000, 3) := op_17 nN_cX11_inside (by decide +kernel)
theorem dX11_inside_35 : decode cX11_inside 35 = .ok (.if_icmp .le 5, 3) := op_164 nN_cX11_inside (by decide +kernel)
theorem dX11_inside_38 : decode cX11_inside 38 = .ok (.iconst (-1), 1) := op_2 nN_cX11_inside (by decide +kernel)
theorem dX11_inside_39 : decode cX11_inside 39 = .ok (.ireturn, 1) := op_172 nN_cX11_inside (by decide +kernel)
theorem dX11_inside_40 : decode cX11_inside 40 = .ok (.aload_n 0, 1) := op_42 nN_cX11_inside (by decide +kernel)
theorem dX11_inside_41 : decode cX11_inside 41 = .ok (.iload_n 3, 1) := op_29 nN_cX11_inside (by decide +kernel)
theorem dX11_inside_42 : decode cX11_inside 42 = .ok (.iload_n 1, 1) := op_27 nN_cX11_inside (by decide +kernel)
theorem dX11_inside_43 : decode cX11_inside 43 = .ok (.iload_n 2, 1) := op_28 nN_cX11_inside (by decide +kernel)
theorem dX11_inside_44 : decode cX11_inside 44 = .ok (.invokevirtual 175, 3) := op_182 nN_cX11_inside (by decide +kernel)
theorem dX11_inside_47 : decode cX11_inside 47 = .ok (.ifCond .eq 7, 3) := op_153 nN_cX11_inside (by decide +kernel)
theorem dX11_inside_50 : decode cX11_inside 50 = .ok (.iconst 2, 1) := op_5 nN_cX11_inside (by decide +kernel)
theorem dX11_inside_51 : decode cX11_inside 51 = .ok (.goto 18, 3) := op_167 nN_cX11_inside (by decide +kernel)
theorem dX11_inside_54 : decode cX11_inside 54 = .ok (.aload_n 0, 1) := op_42 nN_cX11_inside (by decide +kernel)
theorem dX11_inside_55 : decode cX11_inside 55 = .ok (.iload_n 3, 1) := op_29 nN_cX11_inside (by decide +kernel)
theorem dX11_inside_56 : decode cX11_inside 56 = .ok (.iload_n 1, 1) := op_27 nN_cX11_inside (by decide +kernel)
theorem dX11_inside_57 : decode cX11_inside 57 = .ok (.iload_n 2, 1) := op_28 nN_cX11_inside (by decide +kernel)
theorem dX11_inside_58 : decode cX11_inside 58 = .ok (.invokevirtual 204, 3) := op_182 nN_cX11_inside (by decide +kernel)
theorem dX11_inside_61 : decode cX11_inside 61 = .ok (.ifCond .eq 7, 3) := op_153 nN_cX11_inside (by decide +kernel)
theorem dX11_inside_64 : decode cX11_inside 64 = .ok (.iconst 1, 1) := op_4 nN_cX11_inside (by decide +kernel)
theorem dX11_inside_65 : decode cX11_inside 65 = .ok (.goto 4, 3) := op_167 nN_cX11_inside (by decide +kernel)
theorem dX11_inside_68 : decode cX11_inside 68 = .ok (.iconst 0, 1) := op_3 nN_cX11_inside (by decide +kernel)
theorem dX11_inside_69 : decode cX11_inside 69 = .ok (.ireturn, 1) := op_172 nN_cX11_inside (by decide +kernel)
theorem nN_cX11_side : onN cX11_side.data.toList = 0x2b534015ca3402b9430750c1c430bc0e5400ad4568617818a8015a8ad0c2f0295002b515a185e042a0056a2b540056e04028583c2b568100c015129402b70f0ac0a160700538050b04c029a1787810015a8ac38014d31802b70f0ac48014d0182c061b8100a01540141001523a408120e83c029c0e84c02a474810241c0d005381c := by decide +kernel
theorem dX11_side_0 : decode cX11_side 0 = .ok (.iload_n 1, 1) := op_27 nN_cX11_side (by decide +kernel)
theorem dX11_side_1 : decode cX11_side 1 = .ok (.ifCond .lt 25, 3) := op_155 nN_cX11_side (by decide +kernel)
theorem dX11_side_4 : decode cX11_side 4 = .ok (.iload_n 1, 1) := op_27 nN_cX11_side (by decide +kernel)
theorem dX11_side_5 : decode cX11_side 5 = .ok (.sipush 1000, 3) := op_17 nN_cX11_side (by decide +kernel)
theorem dX11_side_8 : decode cX11_side 8 = .ok (.if_icmp .gt 18, 3) := op_163 nN_cX11_side (by decide +kernel)
theorem dX11_side_11 : decode cX11_side 11 = .ok (.iload_n 2, 1) := op_28 nN_cX11_side (by decide +kernel)
theorem dX11_side_12 : decode cX11_side 12 = .ok (.ifCond .lt 14, 3) := op_155 nN_cX11_side (by decide +kernel)
theorem dX11_side_15 : decode cX11_side 15 = .ok (.iload_n 2, 1) := op_28 nN_cX11_side (by decide +kernel)
theorem dX11_side_16 : decode cX11_side 16 = .ok (.sipush 1000, 3) := op_17 nN_cX11_side (by decide +kernel)
theorem dX11_side_19 : decode cX11_side 19 = .ok (.if_icmp .gt 7, 3) := op_163 nN_cX11_side (by decide +kernel)
theorem dX11_side_22 : decode cX11_side 22 = .ok (.iconst 1, 1) := op_4 nN_cX11_side (by decide +kernel)
theorem dX11_side_23 : decode cX11_side 23 = .ok (.goto 4, 3) := op_167 nN_cX11_side (by decide +kernel)
theorem dX11_side_26 : decode cX11_side 26 = .ok (.iconst 0, 1) := op_3 nN_cX11_side (by decide +kernel)
theorem dX11_side_27 : decode cX11_side 27 = .ok (.istore 5, 2) := op_54 nN_cX11_side (by decide +kernel)
theorem dX11_side_29 : decode cX11_side 29 = .ok (.iload 5, 2) := op_21 nN_cX11_side (by decide +kernel)
theorem dX11_side_31 : decode cX11_side 31 = .ok (.ifCond .eq 35, 3) := op_153 nN_cX11_side (by decide +kernel)
theorem dX11_side_34 : decode cX11_side 34 = .ok (.aload_n 0, 1) := op_42 nN_cX11_side (by decide +kernel)
theorem dX11_side_35 : decode cX11_side 35 = .ok (.iload_n 3, 1) := op_29 nN_cX11_side (by decide +kernel)
theorem dX11_side_36 : decode cX11_side 36 = .ok (.invokevirtual 197, 3) := op_182 nN_cX11_side (by decide +kernel)
theorem dX11_side_39 : decode cX11_side 39 = .ok (.ifCond .eq 27, 3) := op_153 nN_cX11_side (by decide +kernel)
theorem dX11_side_42 : decode cX11_side 42 = .ok (.aload_n 0, 1) := op_42 nN_cX11_side (by decide +kernel)
theorem dX11_side_43 : decode cX11_side 43 = .ok (.getfield 7, 3) := op_180 nN_cX11_side (by decide +kernel)
theorem dX11_side_46 : decode cX11_side 46 = .ok (.iload_n 3, 1) := op_29 nN_cX11_side (by decide +kernel)
theorem dX11_side_47 : decode cX11_side 47 = .ok (.iaload, 1) := op_46 nN_cX11_side (by decide +kernel)
theorem dX11_side_48 : decode cX11_side 48 = .ok (.ifCond .eq 18, 3) := op_153 nN_cX11_side (by decide +kernel)
theorem dX11_side_51 : decode cX11_side 51 = .ok (.iload 4, 2) := op_21 nN_cX11_side (by decide +kernel)
theorem dX11_side_53 : decode cX11_side 53 = .ok (.ifCond .lt 13, 3) := op_155 nN_cX11_side (by decide +kernel)
theorem dX11_side_56 : decode cX11_side 56 = .ok (.iload 4, 2) := op_21 nN_cX11_side (by decide +kernel)
theorem dX11_side_58 : decode cX11_side 58 = .ok (.aload_n 0, 1) := op_42 nN_cX11_side (by decide +kernel)
theorem dX11_side_59 : decode cX11_side 59 = .ok (.iload_n 3, 1) := op_29 nN_cX11_side (by decide +kernel)
theorem dX11_side_60 : decode cX11_side 60 = .ok (.invokevirtual 164, 3) := op_182 nN_cX11_side (by decide +kernel)
theorem dX11_side_63 : decode cX11_side 63 = .ok (.if_icmp .lt 5, 3) := op_161 nN_cX11_side (by decide +kernel)
theorem dX11_side_66 : decode cX11_side 66 = .ok (.iconst 0, 1) := op_3 nN_cX11_side (by decide +kernel)
theorem dX11_side_67 : decode cX11_side 67 = .ok (.ireturn, 1) := op_172 nN_cX11_side (by decide +kernel)
theorem dX11_side_68 : decode cX11_side 68 = .ok (.aload_n 0, 1) := op_42 nN_cX11_side (by decide +kernel)
theorem dX11_side_69 : decode cX11_side 69 = .ok (.iload_n 3, 1) := op_29 nN_cX11_side (by decide +kernel)
theorem dX11_side_70 : decode cX11_side 70 = .ok (.iload 4, 2) := op_21 nN_cX11_side (by decide +kernel)
theorem dX11_side_72 : decode cX11_side 72 = .ok (.iconst 0, 1) := op_3 nN_cX11_side (by decide +kernel)
theorem dX11_side_73 : decode cX11_side 73 = .ok (.invokevirtual 167, 3) := op_182 nN_cX11_side (by decide +kernel)
theorem dX11_side_76 : decode cX11_side 76 = .ok (.aload_n 0, 1) := op_42 nN_cX11_side (by decide +kernel)
theorem dX11_side_77 : decode cX11_side 77 = .ok (.getfield 83, 3) := op_180 nN_cX11_side (by decide +kernel)
theorem dX11_side_80 : decode cX11_side 80 = .ok (.iconst 0, 1) := op_3 nN_cX11_side (by decide +kernel)
theorem dX11_side_81 : decode cX11_side 81 = .ok (.iaload, 1) := op_46 nN_cX11_side (by decide +kernel)
theorem dX11_side_82 : decode cX11_side 82 = .ok (.i2l, 1) := op_133 nN_cX11_side (by decide +kernel)
theorem dX11_side_83 : decode cX11_side 83 = .ok (.aload_n 0, 1) := op_42 nN_cX11_side (by decide +kernel)
theorem dX11_side_84 : decode cX11_side 84 = .ok (.getfield 83, 3) := op_180 nN_cX11_side (by decide +kernel)
theorem dX11_side_87 : decode cX11_side 87 = .ok (.iconst 1, 1) := op_4 nN_cX11_side (by decide +kernel)
theorem dX11_side_88 : decode cX11_side 88 = .ok (.iaload, 1) := op_46 nN_cX11_side (by decide +kernel)
theorem dX11_side_89 : decode cX11_side 89 = .ok (.i2l, 1) := op_133 nN_cX11_side (by decide +kernel)
theorem dX11_side_90 : decode cX11_side 90 = .ok (.aload_n 0, 1) := op_42 nN_cX11_side (by decide +kernel)
theorem dX11_side_91 : decode cX11_side 91 = .ok (.getfield 83, 3) := op_180 nN_cX11_side (by decide +kernel)
theorem dX11_side_94 : decode cX11_side 94 = .ok (.iconst 2, 1) := op_5 nN_cX11_side (by decide +kernel)
theorem dX11_side_95 : decode cX11_side 95 = .ok (.iaload, 1) := op_46 nN_cX11_side (by decide +kernel)
theorem dX11_side_96 : decode cX11_side 96 = .ok (.i2l, 1) := op_133 nN_cX11_side (by decide +kernel)
theorem dX11_side_97 : decode cX11_side 97 = .ok (.aload_n 0, 1) := op_42 nN_cX11_side (by decide +kernel)
theorem dX11_side_98 : decode cX11_side 98 = .ok (.getfield 83, 3) := op_180 nN_cX11_side (by decide +kernel)
theorem dX11_side_101 : decode cX11_side 101 = .ok (.iconst 3, 1) := op_6 nN_cX11_side (by decide +kernel)
theorem dX11_side_102 : decode cX11_side 102 = .ok (.iaload, 1) := op_46 nN_cX11_side (by decide +kernel)
theorem dX11_side_103 : decode cX11_side 103 = .ok (.i2l, 1) := op_133 nN_cX11_side (by decide +kernel)
theorem dX11_side_104 : decode cX11_side 104 = .ok (.iload_n 1, 1) := op_27 nN_cX11_side (by decide +kernel)
theorem dX11_side_105 : decode cX11_side 105 = .ok (.i2l, 1) := op_133 nN_cX11_side (by decide +kernel)
theorem dX11_side_106 : decode cX11_side 106 = .ok (.iload_n 2, 1) := op_28 nN_cX11_side (by decide +kernel)
theorem dX11_side_107 : decode cX11_side 107 = .ok (.i2l, 1) := op_133 nN_cX11_side (by decide +kernel)
theorem dX11_side_108 : decode cX11_side 108 = .ok (.invokestatic 140, 3) := op_184 nN_cX11_side (by decide +kernel)
theorem dX11_side_111 : decode cX11_side 111 = .ok (.invokestatic 153, 3) := op_184 nN_cX11_side (by decide +kernel)
theorem dX11_side_114 : decode cX11_side 114 = .ok (.ireturn, 1) := op_172 nN_cX11_side (by decide +kernel)
theorem nN_cX11_near : onN cX11_near.data.toList = 0x2b8e8025a8ac1001541e004b51582c029b0f21804b70e87056ae480082a0800a940a1e04805381e0680534c600adc3a2b0a80534c600adc382b := by decide +kernel
theorem dX11_near_0 : decode cX11_near 0 = .ok (.aload_n 0, 1) := op_42 nN_cX11_near (by decide +kernel)
theorem dX11_near_1 : decode cX11_near 1 = .ok (.iload_n 1, 1) := op_27 nN_cX11_near (by decide +kernel)
theorem dX11_near_2 : decode cX11_near 2 = .ok (.invokevirtual 197, 3) := op_182 nN_cX11_near (by decide +kernel)
theorem dX11_near_5 : decode cX11_near 5 = .ok (.ifCond .eq 20, 3) := op_153 nN_cX11_near (by decide +kernel)
theorem dX11_near_8 : decode cX11_near 8 = .ok (.aload_n 0, 1) := op_42 nN_cX11_near (by decide +kernel)
theorem dX11_near_9 : decode cX11_near 9 = .ok (.iload_n 2, 1) := op_28 nN_cX11_near (by decide +kernel)
theorem dX11_near_10 : decode cX11_near 10 = .ok (.invokevirtual 197, 3) := op_182 nN_cX11_near (by decide +kernel)
theorem dX11_near_13 : decode cX11_near 13 = .ok (.ifCond .eq 12, 3) := op_153 nN_cX11_near (by decide +kernel)
theorem dX11_near_16 : decode cX11_near 16 = .ok (.iload_n 3, 1) := op_29 nN_cX11_near (by decide +kernel)
theorem dX11_near_17 : decode cX11_near 17 = .ok (.ifCond .lt 8, 3) := op_155 nN_cX11_near (by decide +kernel)
theorem dX11_near_20 : decode cX11_near 20 = .ok (.iload_n 3, 1) := op_29 nN_cX11_near (by decide +kernel)
theorem dX11_near_21 : decode cX11_near 21 = .ok (.iconst 1, 1) := op_4 nN_cX11_near (by decide +kernel)
theorem dX11_near_22 : decode cX11_near 22 = .ok (.if_icmp .le 7, 3) := op_164 nN_cX11_near (by decide +kernel)
theorem dX11_near_25 : decode cX11_near 25 = .ok (.ldc2_w 399, 3) := op_20 nN_cX11_near (by decide +kernel)
theorem dX11_near_28 : decode cX11_near 28 = .ok (.lreturn, 1) := op_173 nN_cX11_near (by decide +kernel)
theorem dX11_near_29 : decode cX11_near 29 = .ok (.aload_n 0, 1) := op_42 nN_cX11_near (by decide +kernel)
theorem dX11_near_30 : decode cX11_near 30 = .ok (.iload_n 1, 1) := op_27 nN_cX11_near (by decide +kernel)
theorem dX11_near_31 : decode cX11_near 31 = .ok (.iload_n 2, 1) := op_28 nN_cX11_near (by decide +kernel)
theorem dX11_near_32 : decode cX11_near 32 = .ok (.invokevirtual 389, 3) := op_182 nN_cX11_near (by decide +kernel)
theorem dX11_near_35 : decode cX11_near 35 = .ok (.iload_n 3, 1) := op_29 nN_cX11_near (by decide +kernel)
theorem dX11_near_36 : decode cX11_near 36 = .ok (.ifCond .ne 10, 3) := op_154 nN_cX11_near (by decide +kernel)
theorem dX11_near_39 : decode cX11_near 39 = .ok (.aload_n 0, 1) := op_42 nN_cX11_near (by decide +kernel)
theorem dX11_near_40 : decode cX11_near 40 = .ok (.getfield 375, 3) := op_180 nN_cX11_near (by decide +kernel)
theorem dX11_near_43 : decode cX11_near 43 = .ok (.goto 7, 3) := op_167 nN_cX11_near (by decide +kernel)
theorem dX11_near_46 : decode cX11_near 46 = .ok (.aload_n 0, 1) := op_42 nN_cX11_near (by decide +kernel)
theorem dX11_near_47 : decode cX11_near 47 = .ok (.getfield 371, 3) := op_180 nN_cX11_near (by decide +kernel)
theorem dX11_near_50 : decode cX11_near 50 = .ok (.lreturn, 1) := op_173 nN_cX11_near (by decide +kernel)
theorem nN_cX11_isClash : onN cX11_isClash.data.toList = 0x568100a015401410014ea54d474012d4566a0285c0a17351e004b515a9c0415028e0c46a43078d6020aa18c22f0e84402b5158bc381100ad45686012dc3a1c15ab4080600a6992015b874382b0680534c600adc3a2b0a80534c600adc382b := by decide +kernel
theorem dX11_isClash_0 : decode cX11_isClash 0 = .ok (.aload_n 0, 1) := op_42 nN_cX11_isClash (by decide +kernel)
theorem dX11_isClash_1 : decode cX11_isClash 1 = .ok (.iload_n 1, 1) := op_27 nN_cX11_isClash (by decide +kernel)
theorem dX11_isClash_2 : decode cX11_isClash 2 = .ok (.invokevirtual 197, 3) := op_182 nN_cX11_isClash (by decide +kernel)
theorem dX11_isClash_5 : decode cX11_isClash 5 = .ok (.ifCond .eq 20, 3) := op_153 nN_cX11_isClash (by decide +kernel)
theorem dX11_isClash_8 : decode cX11_isClash 8 = .ok (.aload_n 0, 1) := op_42 nN_cX11_isClash (by decide +kernel)
theorem dX11_isClash_9 : decode cX11_isClash 9 = .ok (.iload_n 2, 1) := op_28 nN_cX11_isClash (by decide +kernel)
theorem dX11_isClash_10 : decode cX11_isClash 10 = .ok (.invokevirtual 197, 3) := op_182 nN_cX11_isClash (by decide +kernel)
theorem dX11_isClash_13 : decode cX11_isClash 13 = .ok (.ifCond .eq 12, 3) := op_153 nN_cX11_isClash (by decide +kernel)
theorem dX11_isClash_16 : decode cX11_isClash 16 = .ok (.aload_n 0, 1) := op_42 nN_cX11_isClash (by decide +kernel)
theorem dX11_isClash_17 : decode cX11_isClash 17 = .ok (.iload_n 1, 1) := op_27 nN_cX11_isClash (by decide +kernel)
theorem dX11_isClash_18 : decode cX11_isClash 18 = .ok (.iload_n 2, 1) := op_28 nN_cX11_isClash (by decide +kernel)
theorem dX11_isClash_19 : decode cX11_isClash 19 = .ok (.invokevirtual 200, 3) := op_182 nN_cX11_isClash (by decide +kernel)
theorem dX11_isClash_22 : decode cX11_isClash 22 = .ok (.ifCond .eq 5, 3) := op_153 nN_cX11_isClash (by decide +kernel)
theorem dX11_isClash_25 : decode cX11_isClash 25 = .ok (.iconst 0, 1) := op_3 nN_cX11_isClash (by decide +kernel)
theorem dX11_isClash_26 : decode cX11_isClash 26 = .ok (.ireturn, 1) := op_172 nN_cX11_isClash (by decide +kernel)
theorem dX11_isClash_27 : decode cX11_isClash 27 = .ok (.aload_n 0, 1) := op_42 nN_cX11_isClash (by decide +kernel)
theorem dX11_isClash_28 : decode cX11_isClash 28 = .ok (.iload_n 1, 1) := op_27 nN_cX11_isClash (by decide +kernel)
theorem dX11_isClash_29 : decode cX11_isClash 29 = .ok (.iload_n 2, 1) := op_28 nN_cX11_isClash (by decide +kernel)
theorem dX11_isClash_30 : decode cX11_isClash 30 = .ok (.invokevirtual 389, 3) := op_182 nN_cX11_isClash (by decide +kernel)
theorem dX11_isClash_33 : decode cX11_isClash 33 = .ok (.aload_n 0, 1) := op_42 nN_cX11_isClash (by decide +kernel)
theorem dX11_isClash_34 : decode cX11_isClash 34 = .ok (.getfield 16, 3) := op_180 nN_cX11_isClash (by decide +kernel)
theorem dX11_isClash_37 : decode cX11_isClash 37 = .ok (.iload_n 1, 1) := op_27 nN_cX11_isClash (by decide +kernel)
theorem dX11_isClash_38 : decode cX11_isClash 38 = .ok (.iaload, 1) := op_46 nN_cX11_isClash (by decide +kernel)
theorem dX11_isClash_39 : decode cX11_isClash 39 = .ok (.aload_n 0, 1) := op_42 nN_cX11_isClash (by decide +kernel)
theorem dX11_isClash_40 : decode cX11_isClash 40 = .ok (.getfield 16, 3) := op_180 nN_cX11_isClash (by decide +kernel)
theorem dX11_isClash_43 : decode cX11_isClash 43 = .ok (.iload_n 2, 1) := op_28 nN_cX11_isClash (by decide +kernel)
theorem dX11_isClash_44 : decode cX11_isClash 44 = .ok (.iaload, 1) := op_46 nN_cX11_isClash (by decide +kernel)
theorem dX11_isClash_45 : decode cX11_isClash 45 = .ok (.iadd, 1) := op_96 nN_cX11_isClash (by decide +kernel)
theorem dX11_isClash_46 : decode cX11_isClash 46 = .ok (.i2l, 1) := op_133 nN_cX11_isClash (by decide +kernel)
theorem dX11_isClash_47 : decode cX11_isClash 47 = .ok (.ldc2_w 362, 3) := op_20 nN_cX11_isClash (by decide +kernel)
theorem dX11_isClash_50 : decode cX11_isClash 50 = .ok (.iload_n 3, 1) := op_29 nN_cX11_isClash (by decide +kernel)
theorem dX11_isClash_51 : decode cX11_isClash 51 = .ok (.i2l, 1) := op_133 nN_cX11_isClash (by decide +kernel)
theorem dX11_isClash_52 : decode cX11_isClash 52 = .ok (.lmul, 1) := op_105 nN_cX11_isClash (by decide +kernel)
theorem dX11_isClash_53 : decode cX11_isClash 53 = .ok (.ladd, 1) := op_97 nN_cX11_isClash (by decide +kernel)
theorem dX11_isClash_54 : decode cX11_isClash 54 = .ok (.lstore 4, 2) := op_55 nN_cX11_isClash (by decide +kernel)
theorem dX11_isClash_56 : decode cX11_isClash 56 = .ok (.ldc2_w 422, 3) := op_20 nN_cX11_isClash (by decide +kernel)
theorem dX11_isClash_59 : decode cX11_isClash 59 = .ok (.aload_n 0, 1) := op_42 nN_cX11_isClash (by decide +kernel)
theorem dX11_isClash_60 : decode cX11_isClash 60 = .ok (.getfield 375, 3) := op_180 nN_cX11_isClash (by decide +kernel)
theorem dX11_isClash_63 : decode cX11_isClash 63 = .ok (.lmul, 1) := op_105 nN_cX11_isClash (by decide +kernel)
theorem dX11_isClash_64 : decode cX11_isClash 64 = .ok (.lload 4, 2) := op_22 nN_cX11_isClash (by decide +kernel)
theorem dX11_isClash_66 : decode cX11_isClash 66 = .ok (.lload 4, 2) := op_22 nN_cX11_isClash (by decide +kernel)
theorem dX11_isClash_68 : decode cX11_isClash 68 = .ok (.lmul, 1) := op_105 nN_cX11_isClash (by decide +kernel)
theorem dX11_isClash_69 : decode cX11_isClash 69 = .ok (.aload_n 0, 1) := op_42 nN_cX11_isClash (by decide +kernel)
theorem dX11_isClash_70 : decode cX11_isClash 70 = .ok (.getfield 371, 3) := op_180 nN_cX11_isClash (by decide +kernel)
theorem dX11_isClash_73 : decode cX11_isClash 73 = .ok (.lmul, 1) := op_105 nN_cX11_isClash (by decide +kernel)
theorem dX11_isClash_74 : decode cX11_isClash 74 = .ok (.lcmp, 1) := op_148 nN_cX11_isClash (by decide +kernel)
theorem dX11_isClash_75 : decode cX11_isClash 75 = .ok (.ifCond .ge 7, 3) := op_156 nN_cX11_isClash (by decide +kernel)
theorem dX11_isClash_78 : decode cX11_isClash 78 = .ok (.iconst 1, 1) := op_4 nN_cX11_isClash (by decide +kernel)
theorem dX11_isClash_79 : decode cX11_isClash 79 = .ok (.goto 4, 3) := op_167 nN_cX11_isClash (by decide +kernel)
theorem dX11_isClash_82 : decode cX11_isClash 82 = .ok (.iconst 0, 1) := op_3 nN_cX11_isClash (by decide +kernel)
theorem dX11_isClash_83 : decode cX11_isClash 83 = .ok (.ireturn, 1) := op_172 nN_cX11_isClash (by decide +kernel)
theorem nN_cX11_clashes : onN cX11_clashes.data.toList = 0x568759f0054008088571401500202a147c610201402a802820029a548096e1c028583c2b0e87402a3418056a2b028580a37308143c3100a8d06015a8ac3c3f020f808ad0181802a564804241c05805381c := by decide +kernel
theorem dX11_clashes_0 : decode cX11_clashes 0 = .ok (.iload_n 1, 1) := op_27 nN_cX11_clashes (by decide +kernel)
theorem dX11_clashes_1 : decode cX11_clashes 1 = .ok (.ifCond .lt 10, 3) := op_155 nN_cX11_clashes (by decide +kernel)
theorem dX11_clashes_4 : decode cX11_clashes 4 = .ok (.iload_n 1, 1) := op_27 nN_cX11_clashes (by decide +kernel)
theorem dX11_clashes_5 : decode cX11_clashes 5 = .ok (.sipush 200, 3) := op_17 nN_cX11_clashes (by decide +kernel)
theorem dX11_clashes_8 : decode cX11_clashes 8 = .ok (.if_icmp .le 5, 3) := op_164 nN_cX11_clashes (by decide +kernel)
theorem dX11_clashes_11 : decode cX11_clashes 11 = .ok (.iconst (-1), 1) := op_2 nN_cX11_clashes (by decide +kernel)
theorem dX11_clashes_12 : decode cX11_clashes 12 = .ok (.ireturn, 1) := op_172 nN_cX11_clashes (by decide +kernel)
theorem dX11_clashes_13 : decode cX11_clashes 13 = .ok (.iconst 0, 1) := op_3 nN_cX11_clashes (by decide +kernel)
theorem dX11_clashes_14 : decode cX11_clashes 14 = .ok (.istore_n 2, 1) := op_61 nN_cX11_clashes (by decide +kernel)
theorem dX11_clashes_15 : decode cX11_clashes 15 = .ok (.iconst 0, 1) := op_3 nN_cX11_clashes (by decide +kernel)
theorem dX11_clashes_16 : decode cX11_clashes 16 = .ok (.istore_n 3, 1) := op_62 nN_cX11_clashes (by decide +kernel)
theorem dX11_clashes_17 : decode cX11_clashes 17 = .ok (.iload_n 3, 1) := op_29 nN_cX11_clashes (by decide +kernel)
theorem dX11_clashes_18 : decode cX11_clashes 18 = .ok (.aload_n 0, 1) := op_42 nN_cX11_clashes (by decide +kernel)
theorem dX11_clashes_19 : decode cX11_clashes 19 = .ok (.getfield 130, 3) := op_180 nN_cX11_clashes (by decide +kernel)
theorem dX11_clashes_22 : decode cX11_clashes 22 = .ok (.if_icmp .ge 48, 3) := op_162 nN_cX11_clashes (by decide +kernel)
theorem dX11_clashes_25 : decode cX11_clashes 25 = .ok (.iload_n 3, 1) := op_29 nN_cX11_clashes (by decide +kernel)
theorem dX11_clashes_26 : decode cX11_clashes 26 = .ok (.iconst 1, 1) := op_4 nN_cX11_clashes (by decide +kernel)
theorem dX11_clashes_27 : decode cX11_clashes 27 = .ok (.iadd, 1) := op_96 nN_cX11_clashes (by decide +kernel)
theorem dX11_clashes_28 : decode cX11_clashes 28 = .ok (.istore 4, 2) := op_54 nN_cX11_clashes (by decide +kernel)
theorem dX11_clashes_30 : decode cX11_clashes 30 = .ok (.iload 4, 2) := op_21 nN_cX11_clashes (by decide +kernel)
theorem dX11_clashes_32 : decode cX11_clashes 32 = .ok (.aload_n 0, 1) := op_42 nN_cX11_clashes (by decide +kernel)
theorem dX11_clashes_33 : decode cX11_clashes 33 = .ok (.getfield 130, 3) := op_180 nN_cX11_clashes (by decide +kernel)
theorem dX11_clashes_36 : decode cX11_clashes 36 = .ok (.if_icmp .ge 28, 3) := op_162 nN_cX11_clashes (by decide +kernel)
theorem dX11_clashes_39 : decode cX11_clashes 39 = .ok (.iload_n 2, 1) := op_28 nN_cX11_clashes (by decide +kernel)
theorem dX11_clashes_40 : decode cX11_clashes 40 = .ok (.aload_n 0, 1) := op_42 nN_cX11_clashes (by decide +kernel)
theorem dX11_clashes_41 : decode cX11_clashes 41 = .ok (.iload_n 3, 1) := op_29 nN_cX11_clashes (by decide +kernel)
theorem dX11_clashes_42 : decode cX11_clashes 42 = .ok (.iload 4, 2) := op_21 nN_cX11_clashes (by decide +kernel)
theorem dX11_clashes_44 : decode cX11_clashes 44 = .ok (.iload_n 1, 1) := op_27 nN_cX11_clashes (by decide +kernel)
theorem dX11_clashes_45 : decode cX11_clashes 45 = .ok (.invokevirtual 424, 3) := op_182 nN_cX11_clashes (by decide +kernel)
theorem dX11_clashes_48 : decode cX11_clashes 48 = .ok (.ifCond .eq 7, 3) := op_153 nN_cX11_clashes (by decide +kernel)
theorem dX11_clashes_51 : decode cX11_clashes 51 = .ok (.iconst 1, 1) := op_4 nN_cX11_clashes (by decide +kernel)
theorem dX11_clashes_52 : decode cX11_clashes 52 = .ok (.goto 4, 3) := op_167 nN_cX11_clashes (by decide +kernel)
theorem dX11_clashes_55 : decode cX11_clashes 55 = .ok (.iconst 0, 1) := op_3 nN_cX11_clashes (by decide +kernel)
theorem dX11_clashes_56 : decode cX11_clashes 56 = .ok (.iadd, 1) := op_96 nN_cX11_clashes (by decide +kernel)
theorem dX11_clashes_57 : decode cX11_clashes 57 = .ok (.istore_n 2, 1) := op_61 nN_cX11_clashes (by decide +kernel)
theorem dX11_clashes_58 : decode cX11_clashes 58 = .ok (.iinc 4 1, 3) := op_132 nN_cX11_clashes (by decide +kernel)
theorem dX11_clashes_61 : decode cX11_clashes 61 = .ok (.goto (-31), 3) := op_167 nN_cX11_clashes (by decide +kernel)
theorem dX11_clashes_64 : decode cX11_clashes 64 = .ok (.iinc 3 1, 3) := op_132 nN_cX11_clashes (by decide +kernel)
theorem dX11_clashes_67 : decode cX11_clashes 67 = .ok (.goto (-50), 3) := op_167 nN_cX11_clashes (by decide +kernel)
theorem dX11_clashes_70 : decode cX11_clashes 70 = .ok (.iload_n 2, 1) := op_28 nN_cX11_clashes (by decide +kernel)
theorem dX11_clashes_71 : decode cX11_clashes 71 = .ok (.ireturn, 1) := op_172 nN_cX11_clashes (by decide +kernel)
theorem nN_cX11_clash : onN cX11_clash.data.toList = 0x15a035e401500203215a300540080e85010150aad038580c01540182c0900a6c3c1000a843a050b06402a80380536a9012dc38070b0182c2b17005468300ad456070b01c6e61028182c4300a8d06015a8ac0c16030dc08051b8115a03030054a050f024029c0f034029c0e84402a464804241c0c005381c := by decide +kernel
theorem dX11_clash_0 : decode cX11_clash 0 = .ok (.iload_n 1, 1) := op_27 nN_cX11_clash (by decide +kernel)
theorem dX11_clash_1 : decode cX11_clash 1 = .ok (.ifCond .lt 23, 3) := op_155 nN_cX11_clash (by decide +kernel)
theorem dX11_clash_4 : decode cX11_clash 4 = .ok (.iload_n 1, 1) := op_27 nN_cX11_clash (by decide +kernel)
theorem dX11_clash_5 : decode cX11_clash 5 = .ok (.sipush 200, 3) := op_17 nN_cX11_clash (by decide +kernel)
theorem dX11_clash_8 : decode cX11_clash 8 = .ok (.if_icmp .gt 16, 3) := op_163 nN_cX11_clash (by decide +kernel)
theorem dX11_clash_11 : decode cX11_clash 11 = .ok (.iload_n 2, 1) := op_28 nN_cX11_clash (by decide +kernel)
theorem dX11_clash_12 : decode cX11_clash 12 = .ok (.ifCond .lt 12, 3) := op_155 nN_cX11_clash (by decide +kernel)
theorem dX11_clash_15 : decode cX11_clash 15 = .ok (.iload_n 3, 1) := op_29 nN_cX11_clash (by decide +kernel)
theorem dX11_clash_16 : decode cX11_clash 16 = .ok (.ifCond .lt 8, 3) := op_155 nN_cX11_clash (by decide +kernel)
theorem dX11_clash_19 : decode cX11_clash 19 = .ok (.iload_n 3, 1) := op_29 nN_cX11_clash (by decide +kernel)
theorem dX11_clash_20 : decode cX11_clash 20 = .ok (.iconst 1, 1) := op_4 nN_cX11_clash (by decide +kernel)
theorem dX11_clash_21 : decode cX11_clash 21 = .ok (.if_icmp .le 5, 3) := op_164 nN_cX11_clash (by decide +kernel)
theorem dX11_clash_24 : decode cX11_clash 24 = .ok (.iconst (-1), 1) := op_2 nN_cX11_clash (by decide +kernel)
theorem dX11_clash_25 : decode cX11_clash 25 = .ok (.ireturn, 1) := op_172 nN_cX11_clash (by decide +kernel)
theorem dX11_clash_26 : decode cX11_clash 26 = .ok (.iconst 0, 1) := op_3 nN_cX11_clash (by decide +kernel)
theorem dX11_clash_27 : decode cX11_clash 27 = .ok (.istore 4, 2) := op_54 nN_cX11_clash (by decide +kernel)
theorem dX11_clash_29 : decode cX11_clash 29 = .ok (.iconst 0, 1) := op_3 nN_cX11_clash (by decide +kernel)
theorem dX11_clash_30 : decode cX11_clash 30 = .ok (.istore 5, 2) := op_54 nN_cX11_clash (by decide +kernel)
theorem dX11_clash_32 : decode cX11_clash 32 = .ok (.iload 5, 2) := op_21 nN_cX11_clash (by decide +kernel)
theorem dX11_clash_34 : decode cX11_clash 34 = .ok (.aload_n 0, 1) := op_42 nN_cX11_clash (by decide +kernel)
theorem dX11_clash_35 : decode cX11_clash 35 = .ok (.getfield 130, 3) := op_180 nN_cX11_clash (by decide +kernel)
theorem dX11_clash_38 : decode cX11_clash 38 = .ok (.if_icmp .ge 66, 3) := op_162 nN_cX11_clash (by decide +kernel)
theorem dX11_clash_41 : decode cX11_clash 41 = .ok (.iload 5, 2) := op_21 nN_cX11_clash (by decide +kernel)
theorem dX11_clash_43 : decode cX11_clash 43 = .ok (.iconst 1, 1) := op_4 nN_cX11_clash (by decide +kernel)
theorem dX11_clash_44 : decode cX11_clash 44 = .ok (.iadd, 1) := op_96 nN_cX11_clash (by decide +kernel)
theorem dX11_clash_45 : decode cX11_clash 45 = .ok (.istore 6, 2) := op_54 nN_cX11_clash (by decide +kernel)
theorem dX11_clash_47 : decode cX11_clash 47 = .ok (.iload 6, 2) := op_21 nN_cX11_clash (by decide +kernel)
theorem dX11_clash_49 : decode cX11_clash 49 = .ok (.aload_n 0, 1) := op_42 nN_cX11_clash (by decide +kernel)
theorem dX11_clash_50 : decode cX11_clash 50 = .ok (.getfield 130, 3) := op_180 nN_cX11_clash (by decide +kernel)
theorem dX11_clash_53 : decode cX11_clash 53 = .ok (.if_icmp .ge 45, 3) := op_162 nN_cX11_clash (by decide +kernel)
theorem dX11_clash_56 : decode cX11_clash 56 = .ok (.aload_n 0, 1) := op_42 nN_cX11_clash (by decide +kernel)
theorem dX11_clash_57 : decode cX11_clash 57 = .ok (.iload 5, 2) := op_21 nN_cX11_clash (by decide +kernel)
theorem dX11_clash_59 : decode cX11_clash 59 = .ok (.iload 6, 2) := op_21 nN_cX11_clash (by decide +kernel)
theorem dX11_clash_61 : decode cX11_clash 61 = .ok (.iload_n 1, 1) := op_27 nN_cX11_clash (by decide +kernel)
theorem dX11_clash_62 : decode cX11_clash 62 = .ok (.invokevirtual 424, 3) := op_182 nN_cX11_clash (by decide +kernel)
theorem dX11_clash_65 : decode cX11_clash 65 = .ok (.ifCond .ne 6, 3) := op_154 nN_cX11_clash (by decide +kernel)
theorem dX11_clash_68 : decode cX11_clash 68 = .ok (.goto 24, 3) := op_167 nN_cX11_clash (by decide +kernel)
theorem dX11_clash_71 : decode cX11_clash 71 = .ok (.iload 4, 2) := op_21 nN_cX11_clash (by decide +kernel)
theorem dX11_clash_73 : decode cX11_clash 73 = .ok (.iload_n 2, 1) := op_28 nN_cX11_clash (by decide +kernel)
theorem dX11_clash_74 : decode cX11_clash 74 = .ok (.if_icmp .ne 15, 3) := op_160 nN_cX11_clash (by decide +kernel)
theorem dX11_clash_77 : decode cX11_clash 77 = .ok (.iload_n 3, 1) := op_29 nN_cX11_clash (by decide +kernel)
theorem dX11_clash_78 : decode cX11_clash 78 = .ok (.ifCond .ne 8, 3) := op_154 nN_cX11_clash (by decide +kernel)
theorem dX11_clash_81 : decode cX11_clash 81 = .ok (.iload 5, 2) := op_21 nN_cX11_clash (by decide +kernel)
theorem dX11_clash_83 : decode cX11_clash 83 = .ok (.goto 5, 3) := op_167 nN_cX11_clash (by decide +kernel)
theorem dX11_clash_86 : decode cX11_clash 86 = .ok (.iload 6, 2) := op_21 nN_cX11_clash (by decide +kernel)
theorem dX11_clash_88 : decode cX11_clash 88 = .ok (.ireturn, 1) := op_172 nN_cX11_clash (by decide +kernel)
theorem dX11_clash_89 : decode cX11_clash 89 = .ok (.iinc 4 1, 3) := op_132 nN_cX11_clash (by decide +kernel)
theorem dX11_clash_92 : decode cX11_clash 92 = .ok (.iinc 6 1, 3) := op_132 nN_cX11_clash (by decide +kernel)
theorem dX11_clash_95 : decode cX11_clash 95 = .ok (.goto (-48), 3) := op_167 nN_cX11_clash (by decide +kernel)
theorem dX11_clash_98 : decode cX11_clash 98 = .ok (.iinc 5 1, 3) := op_132 nN_cX11_clash (by decide +kernel)
theorem dX11_clash_101 : decode cX11_clash 101 = .ok (.goto (-69), 3) := op_167 nN_cX11_clash (by decide +kernel)
theorem dX11_clash_104 : decode cX11_clash 104 = .ok (.iconst (-1), 1) := op_2 nN_cX11_clash (by decide +kernel)
theorem dX11_clash_105 : decode cX11_clash 105 = .ok (.ireturn, 1) := op_172 nN_cX11_clash (by decide +kernel)
theorem nN_cX11_far : onN cX11_far.data.toList = 0x571d004b51582002a83c0096a2b05805361d418096e2b3a0096c060b8acf0025b0885680802a00408428187074012d456433c0096a2b07805347b012dce8025a8acf0025a8ac0c17110adab005400812853f8096e04178202c4200ad4562f040587e015a8aca8015a8ac56a800adc08090b070562900a8d4a015b87056090b0246e043a0096c0a159e004b6050acba015401c02a5010096a2b178202c4500ad4566e00a84382f0405878015a8acfe015186004b5158202c081b8100c380590c14ae480082a0800a940a1d04805381d0680534c600adc382b := by decide +kernel
theorem dX11_far_0 : decode cX11_far 0 = .ok (.aload_n 0, 1) := op_42 nN_cX11_far (by decide +kernel)
theorem dX11_far_1 : decode cX11_far 1 = .ok (.iload_n 1, 1) := op_27 nN_cX11_far (by decide +kernel)
theorem dX11_far_2 : decode cX11_far 2 = .ok (.invokevirtual 197, 3) := op_182 nN_cX11_far (by decide +kernel)
theorem dX11_far_5 : decode cX11_far 5 = .ok (.ifCond .eq 12, 3) := op_153 nN_cX11_far (by decide +kernel)
theorem dX11_far_8 : decode cX11_far 8 = .ok (.iload_n 2, 1) := op_28 nN_cX11_far (by decide +kernel)
theorem dX11_far_9 : decode cX11_far 9 = .ok (.ifCond .lt 8, 3) := op_155 nN_cX11_far (by decide +kernel)
theorem dX11_far_12 : decode cX11_far 12 = .ok (.iload_n 2, 1) := op_28 nN_cX11_far (by decide +kernel)
theorem dX11_far_13 : decode cX11_far 13 = .ok (.iconst 1, 1) := op_4 nN_cX11_far (by decide +kernel)
theorem dX11_far_14 : decode cX11_far 14 = .ok (.if_icmp .le 7, 3) := op_164 nN_cX11_far (by decide +kernel)
theorem dX11_far_17 : decode cX11_far 17 = .ok (.ldc2_w 399, 3) := op_20 nN_cX11_far (by decide +kernel)
theorem dX11_far_20 : decode cX11_far 20 = .ok (.lreturn, 1) := op_173 nN_cX11_far (by decide +kernel)
theorem dX11_far_21 : decode cX11_far 21 = .ok (.lconst 0, 1) := op_9 nN_cX11_far (by decide +kernel)
theorem dX11_far_22 : decode cX11_far 22 = .ok (.lstore_n 3, 1) := op_66 nN_cX11_far (by decide +kernel)
theorem dX11_far_23 : decode cX11_far 23 = .ok (.lconst 1, 1) := op_10 nN_cX11_far (by decide +kernel)
theorem dX11_far_24 : decode cX11_far 24 = .ok (.lstore 5, 2) := op_55 nN_cX11_far (by decide +kernel)
theorem dX11_far_26 : decode cX11_far 26 = .ok (.iconst 0, 1) := op_3 nN_cX11_far (by decide +kernel)
theorem dX11_far_27 : decode cX11_far 27 = .ok (.istore 7, 2) := op_54 nN_cX11_far (by decide +kernel)
theorem dX11_far_29 : decode cX11_far 29 = .ok (.iload 7, 2) := op_21 nN_cX11_far (by decide +kernel)
theorem dX11_far_31 : decode cX11_far 31 = .ok (.aload_n 0, 1) := op_42 nN_cX11_far (by decide +kernel)
theorem dX11_far_32 : decode cX11_far 32 = .ok (.getfield 279, 3) := op_180 nN_cX11_far (by decide +kernel)
theorem dX11_far_35 : decode cX11_far 35 = .ok (.if_icmp .ge 126, 3) := op_162 nN_cX11_far (by decide +kernel)
theorem dX11_far_38 : decode cX11_far 38 = .ok (.aload_n 0, 1) := op_42 nN_cX11_far (by decide +kernel)
theorem dX11_far_39 : decode cX11_far 39 = .ok (.getfield 59, 3) := op_180 nN_cX11_far (by decide +kernel)
theorem dX11_far_42 : decode cX11_far 42 = .ok (.iload 7, 2) := op_21 nN_cX11_far (by decide +kernel)
theorem dX11_far_44 : decode cX11_far 44 = .ok (.iaload, 1) := op_46 nN_cX11_far (by decide +kernel)
theorem dX11_far_45 : decode cX11_far 45 = .ok (.iload_n 1, 1) := op_27 nN_cX11_far (by decide +kernel)
theorem dX11_far_46 : decode cX11_far 46 = .ok (.if_icmp .ne 109, 3) := op_160 nN_cX11_far (by decide +kernel)
theorem dX11_far_49 : decode cX11_far 49 = .ok (.aload_n 0, 1) := op_42 nN_cX11_far (by decide +kernel)
theorem dX11_far_50 : decode cX11_far 50 = .ok (.getfield 68, 3) := op_180 nN_cX11_far (by decide +kernel)
theorem dX11_far_53 : decode cX11_far 53 = .ok (.iload 7, 2) := op_21 nN_cX11_far (by decide +kernel)
theorem dX11_far_55 : decode cX11_far 55 = .ok (.iaload, 1) := op_46 nN_cX11_far (by decide +kernel)
theorem dX11_far_56 : decode cX11_far 56 = .ok (.aload_n 0, 1) := op_42 nN_cX11_far (by decide +kernel)
theorem dX11_far_57 : decode cX11_far 57 = .ok (.getfield 257, 3) := op_180 nN_cX11_far (by decide +kernel)
theorem dX11_far_60 : decode cX11_far 60 = .ok (.if_icmp .le 6, 3) := op_164 nN_cX11_far (by decide +kernel)
theorem dX11_far_63 : decode cX11_far 63 = .ok (.goto 92, 3) := op_167 nN_cX11_far (by decide +kernel)
theorem dX11_far_66 : decode cX11_far 66 = .ok (.aload_n 0, 1) := op_42 nN_cX11_far (by decide +kernel)
theorem dX11_far_67 : decode cX11_far 67 = .ok (.lconst 0, 1) := op_9 nN_cX11_far (by decide +kernel)
theorem dX11_far_68 : decode cX11_far 68 = .ok (.putfield 375, 3) := op_181 nN_cX11_far (by decide +kernel)
theorem dX11_far_71 : decode cX11_far 71 = .ok (.aload_n 0, 1) := op_42 nN_cX11_far (by decide +kernel)
theorem dX11_far_72 : decode cX11_far 72 = .ok (.lconst 0, 1) := op_9 nN_cX11_far (by decide +kernel)
theorem dX11_far_73 : decode cX11_far 73 = .ok (.putfield 371, 3) := op_181 nN_cX11_far (by decide +kernel)
theorem dX11_far_76 : decode cX11_far 76 = .ok (.iconst 0, 1) := op_3 nN_cX11_far (by decide +kernel)
theorem dX11_far_77 : decode cX11_far 77 = .ok (.istore 8, 2) := op_54 nN_cX11_far (by decide +kernel)
theorem dX11_far_79 : decode cX11_far 79 = .ok (.iload 8, 2) := op_21 nN_cX11_far (by decide +kernel)
theorem dX11_far_81 : decode cX11_far 81 = .ok (.aload_n 0, 1) := op_42 nN_cX11_far (by decide +kernel)
theorem dX11_far_82 : decode cX11_far 82 = .ok (.iload_n 1, 1) := op_27 nN_cX11_far (by decide +kernel)
theorem dX11_far_83 : decode cX11_far 83 = .ok (.invokevirtual 164, 3) := op_182 nN_cX11_far (by decide +kernel)
theorem dX11_far_86 : decode cX11_far 86 = .ok (.if_icmp .ge 40, 3) := op_162 nN_cX11_far (by decide +kernel)
theorem dX11_far_89 : decode cX11_far 89 = .ok (.aload_n 0, 1) := op_42 nN_cX11_far (by decide +kernel)
theorem dX11_far_90 : decode cX11_far 90 = .ok (.iload_n 1, 1) := op_27 nN_cX11_far (by decide +kernel)
theorem dX11_far_91 : decode cX11_far 91 = .ok (.iload 8, 2) := op_21 nN_cX11_far (by decide +kernel)
theorem dX11_far_93 : decode cX11_far 93 = .ok (.iconst 0, 1) := op_3 nN_cX11_far (by decide +kernel)
theorem dX11_far_94 : decode cX11_far 94 = .ok (.invokevirtual 167, 3) := op_182 nN_cX11_far (by decide +kernel)
theorem dX11_far_97 : decode cX11_far 97 = .ok (.aload_n 0, 1) := op_42 nN_cX11_far (by decide +kernel)
theorem dX11_far_98 : decode cX11_far 98 = .ok (.aload_n 0, 1) := op_42 nN_cX11_far (by decide +kernel)
theorem dX11_far_99 : decode cX11_far 99 = .ok (.getfield 83, 3) := op_180 nN_cX11_far (by decide +kernel)
theorem dX11_far_102 : decode cX11_far 102 = .ok (.aload_n 0, 1) := op_42 nN_cX11_far (by decide +kernel)
theorem dX11_far_103 : decode cX11_far 103 = .ok (.getfield 62, 3) := op_180 nN_cX11_far (by decide +kernel)
theorem dX11_far_106 : decode cX11_far 106 = .ok (.iload 7, 2) := op_21 nN_cX11_far (by decide +kernel)
theorem dX11_far_108 : decode cX11_far 108 = .ok (.iaload, 1) := op_46 nN_cX11_far (by decide +kernel)
theorem dX11_far_109 : decode cX11_far 109 = .ok (.aload_n 0, 1) := op_42 nN_cX11_far (by decide +kernel)
theorem dX11_far_110 : decode cX11_far 110 = .ok (.getfield 65, 3) := op_180 nN_cX11_far (by decide +kernel)
theorem dX11_far_113 : decode cX11_far 113 = .ok (.iload 7, 2) := op_21 nN_cX11_far (by decide +kernel)
theorem dX11_far_115 : decode cX11_far 115 = .ok (.iaload, 1) := op_46 nN_cX11_far (by decide +kernel)
theorem dX11_far_116 : decode cX11_far 116 = .ok (.iconst 0, 1) := op_3 nN_cX11_far (by decide +kernel)
theorem dX11_far_117 : decode cX11_far 117 = .ok (.invokevirtual 382, 3) := op_182 nN_cX11_far (by decide +kernel)
theorem dX11_far_120 : decode cX11_far 120 = .ok (.iinc 8 1, 3) := op_132 nN_cX11_far (by decide +kernel)
theorem dX11_far_123 : decode cX11_far 123 = .ok (.goto (-44), 3) := op_167 nN_cX11_far (by decide +kernel)
theorem dX11_far_126 : decode cX11_far 126 = .ok (.aload_n 0, 1) := op_42 nN_cX11_far (by decide +kernel)
theorem dX11_far_127 : decode cX11_far 127 = .ok (.lload_n 3, 1) := op_33 nN_cX11_far (by decide +kernel)
theorem dX11_far_128 : decode cX11_far 128 = .ok (.lload 5, 2) := op_22 nN_cX11_far (by decide +kernel)
theorem dX11_far_130 : decode cX11_far 130 = .ok (.aload_n 0, 1) := op_42 nN_cX11_far (by decide +kernel)
theorem dX11_far_131 : decode cX11_far 131 = .ok (.getfield 375, 3) := op_180 nN_cX11_far (by decide +kernel)
theorem dX11_far_134 : decode cX11_far 134 = .ok (.aload_n 0, 1) := op_42 nN_cX11_far (by decide +kernel)
theorem dX11_far_135 : decode cX11_far 135 = .ok (.getfield 371, 3) := op_180 nN_cX11_far (by decide +kernel)
theorem dX11_far_138 : decode cX11_far 138 = .ok (.invokevirtual 378, 3) := op_182 nN_cX11_far (by decide +kernel)
theorem dX11_far_141 : decode cX11_far 141 = .ok (.ifCond .eq 14, 3) := op_153 nN_cX11_far (by decide +kernel)
theorem dX11_far_144 : decode cX11_far 144 = .ok (.aload_n 0, 1) := op_42 nN_cX11_far (by decide +kernel)
theorem dX11_far_145 : decode cX11_far 145 = .ok (.getfield 375, 3) := op_180 nN_cX11_far (by decide +kernel)
theorem dX11_far_148 : decode cX11_far 148 = .ok (.lstore_n 3, 1) := op_66 nN_cX11_far (by decide +kernel)
theorem dX11_far_149 : decode cX11_far 149 = .ok (.aload_n 0, 1) := op_42 nN_cX11_far (by decide +kernel)
theorem dX11_far_150 : decode cX11_far 150 = .ok (.getfield 371, 3) := op_180 nN_cX11_far (by decide +kernel)
theorem dX11_far_153 : decode cX11_far 153 = .ok (.lstore 5, 2) := op_55 nN_cX11_far (by decide +kernel)
theorem dX11_far_155 : decode cX11_far 155 = .ok (.iinc 7 1, 3) := op_132 nN_cX11_far (by decide +kernel)
theorem dX11_far_158 : decode cX11_far 158 = .ok (.goto (-129), 3) := op_167 nN_cX11_far (by decide +kernel)
theorem dX11_far_161 : decode cX11_far 161 = .ok (.aload_n 0, 1) := op_42 nN_cX11_far (by decide +kernel)
theorem dX11_far_162 : decode cX11_far 162 = .ok (.lload_n 3, 1) := op_33 nN_cX11_far (by decide +kernel)
theorem dX11_far_163 : decode cX11_far 163 = .ok (.putfield 375, 3) := op_181 nN_cX11_far (by decide +kernel)
theorem dX11_far_166 : decode cX11_far 166 = .ok (.aload_n 0, 1) := op_42 nN_cX11_far (by decide +kernel)
theorem dX11_far_167 : decode cX11_far 167 = .ok (.lload 5, 2) := op_22 nN_cX11_far (by decide +kernel)
theorem dX11_far_169 : decode cX11_far 169 = .ok (.putfield 371, 3) := op_181 nN_cX11_far (by decide +kernel)
theorem dX11_far_172 : decode cX11_far 172 = .ok (.aload_n 0, 1) := op_42 nN_cX11_far (by decide +kernel)
theorem dX11_far_173 : decode cX11_far 173 = .ok (.invokevirtual 386, 3) := op_182 nN_cX11_far (by decide +kernel)
theorem dX11_far_176 : decode cX11_far 176 = .ok (.iload_n 2, 1) := op_28 nN_cX11_far (by decide +kernel)
theorem dX11_far_177 : decode cX11_far 177 = .ok (.ifCond .ne 10, 3) := op_154 nN_cX11_far (by decide +kernel)
theorem dX11_far_180 : decode cX11_far 180 = .ok (.aload_n 0, 1) := op_42 nN_cX11_far (by decide +kernel)
theorem dX11_far_181 : decode cX11_far 181 = .ok (.getfield 375, 3) := op_180 nN_cX11_far (by decide +kernel)
theorem dX11_far_184 : decode cX11_far 184 = .ok (.goto 7, 3) := op_167 nN_cX11_far (by decide +kernel)
theorem dX11_far_187 : decode cX11_far 187 = .ok (.aload_n 0, 1) := op_42 nN_cX11_far (by decide +kernel)
theorem dX11_far_188 : decode cX11_far 188 = .ok (.getfield 371, 3) := op_180 nN_cX11_far (by decide +kernel)
theorem dX11_far_191 : decode cX11_far 191 = .ok (.lreturn, 1) := op_173 nN_cX11_far (by decide +kernel)
theorem nN_cX11_size : onN cX11_size.data.toList = 0x2b930025b870560900aa0da025b870560c00a6944015b870561900aa0140800a6c5e1c040056a2b5724004150400536c600adc382b := by decide +kernel
theorem dX11_size_0 : decode cX11_size 0 = .ok (.aload_n 0, 1) := op_42 nN_cX11_size (by decide +kernel)
theorem dX11_size_1 : decode cX11_size 1 = .ok (.iload_n 1, 1) := op_27 nN_cX11_size (by decide +kernel)
theorem dX11_size_2 : decode cX11_size 2 = .ok (.invokevirtual 197, 3) := op_182 nN_cX11_size (by decide +kernel)
theorem dX11_size_5 : decode cX11_size 5 = .ok (.ifCond .ne 7, 3) := op_154 nN_cX11_size (by decide +kernel)
theorem dX11_size_8 : decode cX11_size 8 = .ok (.ldc2_w 399, 3) := op_20 nN_cX11_size (by decide +kernel)
theorem dX11_size_11 : decode cX11_size 11 = .ok (.lreturn, 1) := op_173 nN_cX11_size (by decide +kernel)
theorem dX11_size_12 : decode cX11_size 12 = .ok (.aload_n 0, 1) := op_42 nN_cX11_size (by decide +kernel)
theorem dX11_size_13 : decode cX11_size 13 = .ok (.getfield 7, 3) := op_180 nN_cX11_size (by decide +kernel)
theorem dX11_size_16 : decode cX11_size 16 = .ok (.iload_n 1, 1) := op_27 nN_cX11_size (by decide +kernel)
theorem dX11_size_17 : decode cX11_size 17 = .ok (.iaload, 1) := op_46 nN_cX11_size (by decide +kernel)
theorem dX11_size_18 : decode cX11_size 18 = .ok (.ifCond .ne 7, 3) := op_154 nN_cX11_size (by decide +kernel)
theorem dX11_size_21 : decode cX11_size 21 = .ok (.lconst 0, 1) := op_9 nN_cX11_size (by decide +kernel)
theorem dX11_size_22 : decode cX11_size 22 = .ok (.goto 24, 3) := op_167 nN_cX11_size (by decide +kernel)
theorem dX11_size_25 : decode cX11_size 25 = .ok (.aload_n 0, 1) := op_42 nN_cX11_size (by decide +kernel)
theorem dX11_size_26 : decode cX11_size 26 = .ok (.iload_n 1, 1) := op_27 nN_cX11_size (by decide +kernel)
theorem dX11_size_27 : decode cX11_size 27 = .ok (.invokevirtual 161, 3) := op_182 nN_cX11_size (by decide +kernel)
theorem dX11_size_30 : decode cX11_size 30 = .ok (.ifCond .eq 11, 3) := op_153 nN_cX11_size (by decide +kernel)
theorem dX11_size_33 : decode cX11_size 33 = .ok (.aload_n 0, 1) := op_42 nN_cX11_size (by decide +kernel)
theorem dX11_size_34 : decode cX11_size 34 = .ok (.iload_n 1, 1) := op_27 nN_cX11_size (by decide +kernel)
theorem dX11_size_35 : decode cX11_size 35 = .ok (.invokevirtual 364, 3) := op_182 nN_cX11_size (by decide +kernel)
theorem dX11_size_38 : decode cX11_size 38 = .ok (.goto 8, 3) := op_167 nN_cX11_size (by decide +kernel)
theorem dX11_size_41 : decode cX11_size 41 = .ok (.aload_n 0, 1) := op_42 nN_cX11_size (by decide +kernel)
theorem dX11_size_42 : decode cX11_size 42 = .ok (.iload_n 1, 1) := op_27 nN_cX11_size (by decide +kernel)
theorem dX11_size_43 : decode cX11_size 43 = .ok (.invokevirtual 407, 3) := op_182 nN_cX11_size (by decide +kernel)
theorem dX11_size_46 : decode cX11_size 46 = .ok (.lreturn, 1) := op_173 nN_cX11_size (by decide +kernel)
theorem nN_cX11_at : onN cX11_at.data.toList = 0x5680c0a01540bcc21d348705211180056a2b0900542050f06002a8179843a690e0a4222d00ad4561200a6c3cad0181802a21787054015a8ac3a0e00a703a1200a6c681c0d0056a2b0d805348600adc382b := by decide +kernel
theorem dX11_at_0 : decode cX11_at 0 = .ok (.aload_n 0, 1) := op_42 nN_cX11_at (by decide +kernel)
theorem dX11_at_1 : decode cX11_at 1 = .ok (.iload_n 1, 1) := op_27 nN_cX11_at (by decide +kernel)
theorem dX11_at_2 : decode cX11_at 2 = .ok (.invokevirtual 133, 3) := op_182 nN_cX11_at (by decide +kernel)
theorem dX11_at_5 : decode cX11_at 5 = .ok (.ifCond .eq 26, 3) := op_153 nN_cX11_at (by decide +kernel)
theorem dX11_at_8 : decode cX11_at 8 = .ok (.aload_n 0, 1) := op_42 nN_cX11_at (by decide +kernel)
theorem dX11_at_9 : decode cX11_at 9 = .ok (.getfield 25, 3) := op_180 nN_cX11_at (by decide +kernel)
theorem dX11_at_12 : decode cX11_at 12 = .ok (.iload_n 1, 1) := op_27 nN_cX11_at (by decide +kernel)
theorem dX11_at_13 : decode cX11_at 13 = .ok (.baload, 1) := op_51 nN_cX11_at (by decide +kernel)
theorem dX11_at_14 : decode cX11_at 14 = .ok (.ifCond .ne 17, 3) := op_154 nN_cX11_at (by decide +kernel)
theorem dX11_at_17 : decode cX11_at 17 = .ok (.iload_n 2, 1) := op_28 nN_cX11_at (by decide +kernel)
theorem dX11_at_18 : decode cX11_at 18 = .ok (.ifCond .lt 13, 3) := op_155 nN_cX11_at (by decide +kernel)
theorem dX11_at_21 : decode cX11_at 21 = .ok (.iload_n 2, 1) := op_28 nN_cX11_at (by decide +kernel)
theorem dX11_at_22 : decode cX11_at 22 = .ok (.aload_n 0, 1) := op_42 nN_cX11_at (by decide +kernel)
theorem dX11_at_23 : decode cX11_at 23 = .ok (.getfield 41, 3) := op_180 nN_cX11_at (by decide +kernel)
theorem dX11_at_26 : decode cX11_at 26 = .ok (.iload_n 1, 1) := op_27 nN_cX11_at (by decide +kernel)
theorem dX11_at_27 : decode cX11_at 27 = .ok (.iaload, 1) := op_46 nN_cX11_at (by decide +kernel)
theorem dX11_at_28 : decode cX11_at 28 = .ok (.if_icmp .lt 5, 3) := op_161 nN_cX11_at (by decide +kernel)
theorem dX11_at_31 : decode cX11_at 31 = .ok (.iconst (-1), 1) := op_2 nN_cX11_at (by decide +kernel)
theorem dX11_at_32 : decode cX11_at 32 = .ok (.ireturn, 1) := op_172 nN_cX11_at (by decide +kernel)
theorem dX11_at_33 : decode cX11_at 33 = .ok (.iload_n 3, 1) := op_29 nN_cX11_at (by decide +kernel)
theorem dX11_at_34 : decode cX11_at 34 = .ok (.ifCond .ne 17, 3) := op_154 nN_cX11_at (by decide +kernel)
theorem dX11_at_37 : decode cX11_at 37 = .ok (.aload_n 0, 1) := op_42 nN_cX11_at (by decide +kernel)
theorem dX11_at_38 : decode cX11_at 38 = .ok (.getfield 44, 3) := op_180 nN_cX11_at (by decide +kernel)
theorem dX11_at_41 : decode cX11_at 41 = .ok (.bipush 40, 2) := op_16 nN_cX11_at (by decide +kernel)
theorem dX11_at_43 : decode cX11_at 43 = .ok (.iload_n 1, 1) := op_27 nN_cX11_at (by decide +kernel)
theorem dX11_at_44 : decode cX11_at 44 = .ok (.imul, 1) := op_104 nN_cX11_at (by decide +kernel)
theorem dX11_at_45 : decode cX11_at 45 = .ok (.iload_n 2, 1) := op_28 nN_cX11_at (by decide +kernel)
theorem dX11_at_46 : decode cX11_at 46 = .ok (.iadd, 1) := op_96 nN_cX11_at (by decide +kernel)
theorem dX11_at_47 : decode cX11_at 47 = .ok (.iaload, 1) := op_46 nN_cX11_at (by decide +kernel)
theorem dX11_at_48 : decode cX11_at 48 = .ok (.goto 23, 3) := op_167 nN_cX11_at (by decide +kernel)
theorem dX11_at_51 : decode cX11_at 51 = .ok (.iload_n 3, 1) := op_29 nN_cX11_at (by decide +kernel)
theorem dX11_at_52 : decode cX11_at 52 = .ok (.iconst 1, 1) := op_4 nN_cX11_at (by decide +kernel)
theorem dX11_at_53 : decode cX11_at 53 = .ok (.if_icmp .ne 17, 3) := op_160 nN_cX11_at (by decide +kernel)
theorem dX11_at_56 : decode cX11_at 56 = .ok (.aload_n 0, 1) := op_42 nN_cX11_at (by decide +kernel)
theorem dX11_at_57 : decode cX11_at 57 = .ok (.getfield 47, 3) := op_180 nN_cX11_at (by decide +kernel)
theorem dX11_at_60 : decode cX11_at 60 = .ok (.bipush 40, 2) := op_16 nN_cX11_at (by decide +kernel)
theorem dX11_at_62 : decode cX11_at 62 = .ok (.iload_n 1, 1) := op_27 nN_cX11_at (by decide +kernel)
theorem dX11_at_63 : decode cX11_at 63 = .ok (.imul, 1) := op_104 nN_cX11_at (by decide +kernel)
theorem dX11_at_64 : decode cX11_at 64 = .ok (.iload_n 2, 1) := op_28 nN_cX11_at (by decide +kernel)
theorem dX11_at_65 : decode cX11_at 65 = .ok (.iadd, 1) := op_96 nN_cX11_at (by decide +kernel)
theorem dX11_at_66 : decode cX11_at 66 = .ok (.iaload, 1) := op_46 nN_cX11_at (by decide +kernel)
theorem dX11_at_67 : decode cX11_at 67 = .ok (.goto 4, 3) := op_167 nN_cX11_at (by decide +kernel)
theorem dX11_at_70 : decode cX11_at 70 = .ok (.iconst (-1), 1) := op_2 nN_cX11_at (by decide +kernel)
theorem dX11_at_71 : decode cX11_at 71 = .ok (.ireturn, 1) := op_172 nN_cX11_at (by decide +kernel)
theorem nN_cX11_told : onN cX11_told.data.toList = 0x5680d5a2f0e09c02b515ab45e1c120056a2b568bc382100ad456ad178703c015a8ad5a040280550050400534340e06802b515ab45e1c0b8056a2b568bc382a00ad4560a00aa0080800a68681c0d0056a2b568bc381400ad456ad1787022015a8ad5a2f0e03802b515ab45e1c040056a2b4a80402014700402014380402014000402013880402013500402012b00402012780402012400402012080402011d00402010580402010080402014e0040201558755a0303005368600adc382b := by decide +kernel
theorem dX11_told_0 : decode cX11_told 0 = .ok (.aload_n 0, 1) := op_42 nN_cX11_told (by decide +kernel)
theorem dX11_told_1 : decode cX11_told 1 = .ok (.iload_n 1, 1) := op_27 nN_cX11_told (by decide +kernel)
theorem dX11_told_2 : decode cX11_told 2 = .ok (.invokevirtual 133, 3) := op_182 nN_cX11_told (by decide +kernel)
theorem dX11_told_5 : decode cX11_told 5 = .ok (.ifCond .ne 5, 3) := op_154 nN_cX11_told (by decide +kernel)
theorem dX11_told_8 : decode cX11_told 8 = .ok (.iconst (-1), 1) := op_2 nN_cX11_told (by decide +kernel)
theorem dX11_told_9 : decode cX11_told 9 = .ok (.ireturn, 1) := op_172 nN_cX11_told (by decide +kernel)
theorem dX11_told_10 : decode cX11_told 10 = .ok (.iload_n 2, 1) := op_28 nN_cX11_told (by decide +kernel)
theorem dX11_told_11 : decode cX11_told 11 = .ok (.tableswitch 155 0 10 #[57, 64, 71, 78, 85, 105, 112, 127, 134, 141, 148], 57) := by decide +kernel
theorem dX11_told_68 : decode cX11_told 68 = .ok (.aload_n 0, 1) := op_42 nN_cX11_told (by decide +kernel)
theorem dX11_told_69 : decode cX11_told 69 = .ok (.getfield 7, 3) := op_180 nN_cX11_told (by decide +kernel)
theorem dX11_told_72 : decode cX11_told 72 = .ok (.iload_n 1, 1) := op_27 nN_cX11_told (by decide +kernel)
theorem dX11_told_73 : decode cX11_told 73 = .ok (.iaload, 1) := op_46 nN_cX11_told (by decide +kernel)
theorem dX11_told_74 : decode cX11_told 74 = .ok (.ireturn, 1) := op_172 nN_cX11_told (by decide +kernel)
theorem dX11_told_75 : decode cX11_told 75 = .ok (.aload_n 0, 1) := op_42 nN_cX11_told (by decide +kernel)
theorem dX11_told_76 : decode cX11_told 76 = .ok (.getfield 13, 3) := op_180 nN_cX11_told (by decide +kernel)
theorem dX11_told_79 : decode cX11_told 79 = .ok (.iload_n 1, 1) := op_27 nN_cX11_told (by decide +kernel)
theorem dX11_told_80 : decode cX11_told 80 = .ok (.iaload, 1) := op_46 nN_cX11_told (by decide +kernel)
theorem dX11_told_81 : decode cX11_told 81 = .ok (.ireturn, 1) := op_172 nN_cX11_told (by decide +kernel)
theorem dX11_told_82 : decode cX11_told 82 = .ok (.aload_n 0, 1) := op_42 nN_cX11_told (by decide +kernel)
theorem dX11_told_83 : decode cX11_told 83 = .ok (.getfield 16, 3) := op_180 nN_cX11_told (by decide +kernel)
theorem dX11_told_86 : decode cX11_told 86 = .ok (.iload_n 1, 1) := op_27 nN_cX11_told (by decide +kernel)
theorem dX11_told_87 : decode cX11_told 87 = .ok (.iaload, 1) := op_46 nN_cX11_told (by decide +kernel)
theorem dX11_told_88 : decode cX11_told 88 = .ok (.ireturn, 1) := op_172 nN_cX11_told (by decide +kernel)
theorem dX11_told_89 : decode cX11_told 89 = .ok (.aload_n 0, 1) := op_42 nN_cX11_told (by decide +kernel)
theorem dX11_told_90 : decode cX11_told 90 = .ok (.getfield 19, 3) := op_180 nN_cX11_told (by decide +kernel)
theorem dX11_told_93 : decode cX11_told 93 = .ok (.iload_n 1, 1) := op_27 nN_cX11_told (by decide +kernel)
theorem dX11_told_94 : decode cX11_told 94 = .ok (.iaload, 1) := op_46 nN_cX11_told (by decide +kernel)
theorem dX11_told_95 : decode cX11_told 95 = .ok (.ireturn, 1) := op_172 nN_cX11_told (by decide +kernel)
theorem dX11_told_96 : decode cX11_told 96 = .ok (.aload_n 0, 1) := op_42 nN_cX11_told (by decide +kernel)
theorem dX11_told_97 : decode cX11_told 97 = .ok (.getfield 25, 3) := op_180 nN_cX11_told (by decide +kernel)
theorem dX11_told_100 : decode cX11_told 100 = .ok (.iload_n 1, 1) := op_27 nN_cX11_told (by decide +kernel)
theorem dX11_told_101 : decode cX11_told 101 = .ok (.baload, 1) := op_51 nN_cX11_told (by decide +kernel)
theorem dX11_told_102 : decode cX11_told 102 = .ok (.ifCond .eq 7, 3) := op_153 nN_cX11_told (by decide +kernel)
theorem dX11_told_105 : decode cX11_told 105 = .ok (.iconst 0, 1) := op_3 nN_cX11_told (by decide +kernel)
theorem dX11_told_106 : decode cX11_told 106 = .ok (.goto 9, 3) := op_167 nN_cX11_told (by decide +kernel)
theorem dX11_told_109 : decode cX11_told 109 = .ok (.aload_n 0, 1) := op_42 nN_cX11_told (by decide +kernel)
theorem dX11_told_110 : decode cX11_told 110 = .ok (.getfield 41, 3) := op_180 nN_cX11_told (by decide +kernel)
theorem dX11_told_113 : decode cX11_told 113 = .ok (.iload_n 1, 1) := op_27 nN_cX11_told (by decide +kernel)
theorem dX11_told_114 : decode cX11_told 114 = .ok (.iaload, 1) := op_46 nN_cX11_told (by decide +kernel)
theorem dX11_told_115 : decode cX11_told 115 = .ok (.ireturn, 1) := op_172 nN_cX11_told (by decide +kernel)
theorem dX11_told_116 : decode cX11_told 116 = .ok (.aload_n 0, 1) := op_42 nN_cX11_told (by decide +kernel)
theorem dX11_told_117 : decode cX11_told 117 = .ok (.getfield 22, 3) := op_180 nN_cX11_told (by decide +kernel)
theorem dX11_told_120 : decode cX11_told 120 = .ok (.iload_n 1, 1) := op_27 nN_cX11_told (by decide +kernel)
theorem dX11_told_121 : decode cX11_told 121 = .ok (.iaload, 1) := op_46 nN_cX11_told (by decide +kernel)
theorem dX11_told_122 : decode cX11_told 122 = .ok (.ireturn, 1) := op_172 nN_cX11_told (by decide +kernel)
theorem dX11_told_123 : decode cX11_told 123 = .ok (.aload_n 0, 1) := op_42 nN_cX11_told (by decide +kernel)
theorem dX11_told_124 : decode cX11_told 124 = .ok (.getfield 25, 3) := op_180 nN_cX11_told (by decide +kernel)
theorem dX11_told_127 : decode cX11_told 127 = .ok (.iload_n 1, 1) := op_27 nN_cX11_told (by decide +kernel)
theorem dX11_told_128 : decode cX11_told 128 = .ok (.baload, 1) := op_51 nN_cX11_told (by decide +kernel)
theorem dX11_told_129 : decode cX11_told 129 = .ok (.ifCond .eq 7, 3) := op_153 nN_cX11_told (by decide +kernel)
theorem dX11_told_132 : decode cX11_told 132 = .ok (.iconst 1, 1) := op_4 nN_cX11_told (by decide +kernel)
theorem dX11_told_133 : decode cX11_told 133 = .ok (.goto 4, 3) := op_167 nN_cX11_told (by decide +kernel)
theorem dX11_told_136 : decode cX11_told 136 = .ok (.iconst 0, 1) := op_3 nN_cX11_told (by decide +kernel)
theorem dX11_told_137 : decode cX11_told 137 = .ok (.ireturn, 1) := op_172 nN_cX11_told (by decide +kernel)
theorem dX11_told_138 : decode cX11_told 138 = .ok (.aload_n 0, 1) := op_42 nN_cX11_told (by decide +kernel)
theorem dX11_told_139 : decode cX11_told 139 = .ok (.getfield 29, 3) := op_180 nN_cX11_told (by decide +kernel)
theorem dX11_told_142 : decode cX11_told 142 = .ok (.iload_n 1, 1) := op_27 nN_cX11_told (by decide +kernel)
theorem dX11_told_143 : decode cX11_told 143 = .ok (.iaload, 1) := op_46 nN_cX11_told (by decide +kernel)
theorem dX11_told_144 : decode cX11_told 144 = .ok (.ireturn, 1) := op_172 nN_cX11_told (by decide +kernel)
theorem dX11_told_145 : decode cX11_told 145 = .ok (.aload_n 0, 1) := op_42 nN_cX11_told (by decide +kernel)
theorem dX11_told_146 : decode cX11_told 146 = .ok (.getfield 32, 3) := op_180 nN_cX11_told (by decide +kernel)
theorem dX11_told_149 : decode cX11_told 149 = .ok (.iload_n 1, 1) := op_27 nN_cX11_told (by decide +kernel)
theorem dX11_told_150 : decode cX11_told 150 = .ok (.iaload, 1) := op_46 nN_cX11_told (by decide +kernel)
theorem dX11_told_151 : decode cX11_told 151 = .ok (.ireturn, 1) := op_172 nN_cX11_told (by decide +kernel)
theorem dX11_told_152 : decode cX11_told 152 = .ok (.aload_n 0, 1) := op_42 nN_cX11_told (by decide +kernel)
theorem dX11_told_153 : decode cX11_told 153 = .ok (.getfield 35, 3) := op_180 nN_cX11_told (by decide +kernel)
theorem dX11_told_156 : decode cX11_told 156 = .ok (.iload_n 1, 1) := op_27 nN_cX11_told (by decide +kernel)
theorem dX11_told_157 : decode cX11_told 157 = .ok (.iaload, 1) := op_46 nN_cX11_told (by decide +kernel)
theorem dX11_told_158 : decode cX11_told 158 = .ok (.ireturn, 1) := op_172 nN_cX11_told (by decide +kernel)
theorem dX11_told_159 : decode cX11_told 159 = .ok (.aload_n 0, 1) := op_42 nN_cX11_told (by decide +kernel)
theorem dX11_told_160 : decode cX11_told 160 = .ok (.getfield 38, 3) := op_180 nN_cX11_told (by decide +kernel)
theorem dX11_told_163 : decode cX11_told 163 = .ok (.iload_n 1, 1) := op_27 nN_cX11_told (by decide +kernel)
theorem dX11_told_164 : decode cX11_told 164 = .ok (.iaload, 1) := op_46 nN_cX11_told (by decide +kernel)
theorem dX11_told_165 : decode cX11_told 165 = .ok (.ireturn, 1) := op_172 nN_cX11_told (by decide +kernel)
theorem dX11_told_166 : decode cX11_told 166 = .ok (.iconst (-1), 1) := op_2 nN_cX11_told (by decide +kernel)
theorem dX11_told_167 : decode cX11_told 167 = .ok (.ireturn, 1) := op_172 nN_cX11_told (by decide +kernel)
theorem nN_cX11_step : onN cX11_step.data.toList = 0xad01ab4080500aa00a0800a9004025a8ac38ad1787072015a8ad5a2f0e0d802b515ab45e1c198056a2b1a804020117004020113804020110004020102004020100804020121804020100805561d5680c0c015298410025a8ac04025a8ac381100a880a1c := by decide +kernel
theorem dX11_step_0 : decode cX11_step 0 = .ok (.iload_n 1, 1) := op_27 nN_cX11_step (by decide +kernel)
theorem dX11_step_1 : decode cX11_step 1 = .ok (.iconst 1, 1) := op_4 nN_cX11_step (by decide +kernel)
theorem dX11_step_2 : decode cX11_step 2 = .ok (.if_icmp .lt 16, 3) := op_161 nN_cX11_step (by decide +kernel)
theorem dX11_step_5 : decode cX11_step 5 = .ok (.iload_n 1, 1) := op_27 nN_cX11_step (by decide +kernel)
theorem dX11_step_6 : decode cX11_step 6 = .ok (.aload_n 0, 1) := op_42 nN_cX11_step (by decide +kernel)
theorem dX11_step_7 : decode cX11_step 7 = .ok (.getfield 257, 3) := op_180 nN_cX11_step (by decide +kernel)
theorem dX11_step_10 : decode cX11_step 10 = .ok (.aload_n 0, 1) := op_42 nN_cX11_step (by decide +kernel)
theorem dX11_step_11 : decode cX11_step 11 = .ok (.getfield 263, 3) := op_180 nN_cX11_step (by decide +kernel)
theorem dX11_step_14 : decode cX11_step 14 = .ok (.iadd, 1) := op_96 nN_cX11_step (by decide +kernel)
theorem dX11_step_15 : decode cX11_step 15 = .ok (.if_icmp .le 5, 3) := op_164 nN_cX11_step (by decide +kernel)
theorem dX11_step_18 : decode cX11_step 18 = .ok (.iconst (-1), 1) := op_2 nN_cX11_step (by decide +kernel)
theorem dX11_step_19 : decode cX11_step 19 = .ok (.ireturn, 1) := op_172 nN_cX11_step (by decide +kernel)
theorem dX11_step_20 : decode cX11_step 20 = .ok (.iload_n 2, 1) := op_28 nN_cX11_step (by decide +kernel)
theorem dX11_step_21 : decode cX11_step 21 = .ok (.tableswitch 66 0 3 #[31, 38, 45, 52], 31) := by decide +kernel
theorem dX11_step_52 : decode cX11_step 52 = .ok (.aload_n 0, 1) := op_42 nN_cX11_step (by decide +kernel)
theorem dX11_step_53 : decode cX11_step 53 = .ok (.getfield 50, 3) := op_180 nN_cX11_step (by decide +kernel)
theorem dX11_step_56 : decode cX11_step 56 = .ok (.iload_n 1, 1) := op_27 nN_cX11_step (by decide +kernel)
theorem dX11_step_57 : decode cX11_step 57 = .ok (.iaload, 1) := op_46 nN_cX11_step (by decide +kernel)
theorem dX11_step_58 : decode cX11_step 58 = .ok (.ireturn, 1) := op_172 nN_cX11_step (by decide +kernel)
theorem dX11_step_59 : decode cX11_step 59 = .ok (.aload_n 0, 1) := op_42 nN_cX11_step (by decide +kernel)
theorem dX11_step_60 : decode cX11_step 60 = .ok (.getfield 53, 3) := op_180 nN_cX11_step (by decide +kernel)
theorem dX11_step_63 : decode cX11_step 63 = .ok (.iload_n 1, 1) := op_27 nN_cX11_step (by decide +kernel)
theorem dX11_step_64 : decode cX11_step 64 = .ok (.iaload, 1) := op_46 nN_cX11_step (by decide +kernel)
theorem dX11_step_65 : decode cX11_step 65 = .ok (.ireturn, 1) := op_172 nN_cX11_step (by decide +kernel)
theorem dX11_step_66 : decode cX11_step 66 = .ok (.aload_n 0, 1) := op_42 nN_cX11_step (by decide +kernel)
theorem dX11_step_67 : decode cX11_step 67 = .ok (.getfield 56, 3) := op_180 nN_cX11_step (by decide +kernel)
theorem dX11_step_70 : decode cX11_step 70 = .ok (.iload_n 1, 1) := op_27 nN_cX11_step (by decide +kernel)
theorem dX11_step_71 : decode cX11_step 71 = .ok (.iaload, 1) := op_46 nN_cX11_step (by decide +kernel)
theorem dX11_step_72 : decode cX11_step 72 = .ok (.ireturn, 1) := op_172 nN_cX11_step (by decide +kernel)
theorem dX11_step_73 : decode cX11_step 73 = .ok (.iload_n 1, 1) := op_27 nN_cX11_step (by decide +kernel)
theorem dX11_step_74 : decode cX11_step 74 = .ok (.aload_n 0, 1) := op_42 nN_cX11_step (by decide +kernel)
theorem dX11_step_75 : decode cX11_step 75 = .ok (.getfield 257, 3) := op_180 nN_cX11_step (by decide +kernel)
theorem dX11_step_78 : decode cX11_step 78 = .ok (.if_icmp .gt 7, 3) := op_163 nN_cX11_step (by decide +kernel)
theorem dX11_step_81 : decode cX11_step 81 = .ok (.iconst 1, 1) := op_4 nN_cX11_step (by decide +kernel)
theorem dX11_step_82 : decode cX11_step 82 = .ok (.goto 4, 3) := op_167 nN_cX11_step (by decide +kernel)
theorem dX11_step_85 : decode cX11_step 85 = .ok (.iconst 0, 1) := op_3 nN_cX11_step (by decide +kernel)
theorem dX11_step_86 : decode cX11_step 86 = .ok (.ireturn, 1) := op_172 nN_cX11_step (by decide +kernel)
theorem dX11_step_87 : decode cX11_step 87 = .ok (.iconst (-1), 1) := op_2 nN_cX11_step (by decide +kernel)
theorem dX11_step_88 : decode cX11_step 88 = .ok (.ireturn, 1) := op_172 nN_cX11_step (by decide +kernel)
theorem nN_cX11_count : onN cX11_count.data.toList = 0x5680d5a7c00ad456ad040096a2b5680804b515ab40c16568142cad0f2b43aad418056a2b2500402012280402012000402011e80402011d00402011c00402011b00402011880402010400402010080402012780402010080402ab0e28a00a80101d0a061b984080500aa05e070b0a802b515838029a630056e070b0ac0c16028dcc2040280550050400534340385834015a8ac0a161f984080500aa00a0800a840c2f038582e015a8ac3c3e308100a01540141001508145e070b05c02b515874ba0151a0c02b51581c2c071b8100c37020146e041f8107c04 := by decide +kernel
theorem dX11_count_0 : decode cX11_count 0 = .ok (.iconst 0, 1) := op_3 nN_cX11_count (by decide +kernel)
theorem dX11_count_1 : decode cX11_count 1 = .ok (.istore_n 2, 1) := op_61 nN_cX11_count (by decide +kernel)
theorem dX11_count_2 : decode cX11_count 2 = .ok (.iconst 0, 1) := op_3 nN_cX11_count (by decide +kernel)
theorem dX11_count_3 : decode cX11_count 3 = .ok (.istore_n 3, 1) := op_62 nN_cX11_count (by decide +kernel)
theorem dX11_count_4 : decode cX11_count 4 = .ok (.iconst 0, 1) := op_3 nN_cX11_count (by decide +kernel)
theorem dX11_count_5 : decode cX11_count 5 = .ok (.istore 4, 2) := op_54 nN_cX11_count (by decide +kernel)
theorem dX11_count_7 : decode cX11_count 7 = .ok (.iconst 0, 1) := op_3 nN_cX11_count (by decide +kernel)
theorem dX11_count_8 : decode cX11_count 8 = .ok (.istore 5, 2) := op_54 nN_cX11_count (by decide +kernel)
theorem dX11_count_10 : decode cX11_count 10 = .ok (.iconst 0, 1) := op_3 nN_cX11_count (by decide +kernel)
theorem dX11_count_11 : decode cX11_count 11 = .ok (.istore 6, 2) := op_54 nN_cX11_count (by decide +kernel)
theorem dX11_count_13 : decode cX11_count 13 = .ok (.iload 6, 2) := op_21 nN_cX11_count (by decide +kernel)
theorem dX11_count_15 : decode cX11_count 15 = .ok (.aload_n 0, 1) := op_42 nN_cX11_count (by decide +kernel)
theorem dX11_count_16 : decode cX11_count 16 = .ok (.getfield 130, 3) := op_180 nN_cX11_count (by decide +kernel)
theorem dX11_count_19 : decode cX11_count 19 = .ok (.if_icmp .ge 92, 3) := op_162 nN_cX11_count (by decide +kernel)
theorem dX11_count_22 : decode cX11_count 22 = .ok (.iload_n 2, 1) := op_28 nN_cX11_count (by decide +kernel)
theorem dX11_count_23 : decode cX11_count 23 = .ok (.aload_n 0, 1) := op_42 nN_cX11_count (by decide +kernel)
theorem dX11_count_24 : decode cX11_count 24 = .ok (.getfield 22, 3) := op_180 nN_cX11_count (by decide +kernel)
theorem dX11_count_27 : decode cX11_count 27 = .ok (.iload 6, 2) := op_21 nN_cX11_count (by decide +kernel)
theorem dX11_count_29 : decode cX11_count 29 = .ok (.iaload, 1) := op_46 nN_cX11_count (by decide +kernel)
theorem dX11_count_30 : decode cX11_count 30 = .ok (.iconst 1, 1) := op_4 nN_cX11_count (by decide +kernel)
theorem dX11_count_31 : decode cX11_count 31 = .ok (.if_icmp .ne 7, 3) := op_160 nN_cX11_count (by decide +kernel)
theorem dX11_count_34 : decode cX11_count 34 = .ok (.iconst 1, 1) := op_4 nN_cX11_count (by decide +kernel)
theorem dX11_count_35 : decode cX11_count 35 = .ok (.goto 4, 3) := op_167 nN_cX11_count (by decide +kernel)
theorem dX11_count_38 : decode cX11_count 38 = .ok (.iconst 0, 1) := op_3 nN_cX11_count (by decide +kernel)
theorem dX11_count_39 : decode cX11_count 39 = .ok (.iadd, 1) := op_96 nN_cX11_count (by decide +kernel)
theorem dX11_count_40 : decode cX11_count 40 = .ok (.istore_n 2, 1) := op_61 nN_cX11_count (by decide +kernel)
theorem dX11_count_41 : decode cX11_count 41 = .ok (.iload_n 3, 1) := op_29 nN_cX11_count (by decide +kernel)
theorem dX11_count_42 : decode cX11_count 42 = .ok (.aload_n 0, 1) := op_42 nN_cX11_count (by decide +kernel)
theorem dX11_count_43 : decode cX11_count 43 = .ok (.getfield 22, 3) := op_180 nN_cX11_count (by decide +kernel)
theorem dX11_count_46 : decode cX11_count 46 = .ok (.iload 6, 2) := op_21 nN_cX11_count (by decide +kernel)
theorem dX11_count_48 : decode cX11_count 48 = .ok (.iaload, 1) := op_46 nN_cX11_count (by decide +kernel)
theorem dX11_count_49 : decode cX11_count 49 = .ok (.iconst 2, 1) := op_5 nN_cX11_count (by decide +kernel)
theorem dX11_count_50 : decode cX11_count 50 = .ok (.if_icmp .ne 7, 3) := op_160 nN_cX11_count (by decide +kernel)
theorem dX11_count_53 : decode cX11_count 53 = .ok (.iconst 1, 1) := op_4 nN_cX11_count (by decide +kernel)
theorem dX11_count_54 : decode cX11_count 54 = .ok (.goto 4, 3) := op_167 nN_cX11_count (by decide +kernel)
theorem dX11_count_57 : decode cX11_count 57 = .ok (.iconst 0, 1) := op_3 nN_cX11_count (by decide +kernel)
theorem dX11_count_58 : decode cX11_count 58 = .ok (.iadd, 1) := op_96 nN_cX11_count (by decide +kernel)
theorem dX11_count_59 : decode cX11_count 59 = .ok (.istore_n 3, 1) := op_62 nN_cX11_count (by decide +kernel)
theorem dX11_count_60 : decode cX11_count 60 = .ok (.iload 4, 2) := op_21 nN_cX11_count (by decide +kernel)
theorem dX11_count_62 : decode cX11_count 62 = .ok (.aload_n 0, 1) := op_42 nN_cX11_count (by decide +kernel)
theorem dX11_count_63 : decode cX11_count 63 = .ok (.getfield 25, 3) := op_180 nN_cX11_count (by decide +kernel)
theorem dX11_count_66 : decode cX11_count 66 = .ok (.iload 6, 2) := op_21 nN_cX11_count (by decide +kernel)
theorem dX11_count_68 : decode cX11_count 68 = .ok (.baload, 1) := op_51 nN_cX11_count (by decide +kernel)
theorem dX11_count_69 : decode cX11_count 69 = .ok (.ifCond .eq 7, 3) := op_153 nN_cX11_count (by decide +kernel)
theorem dX11_count_72 : decode cX11_count 72 = .ok (.iconst 1, 1) := op_4 nN_cX11_count (by decide +kernel)
theorem dX11_count_73 : decode cX11_count 73 = .ok (.goto 4, 3) := op_167 nN_cX11_count (by decide +kernel)
theorem dX11_count_76 : decode cX11_count 76 = .ok (.iconst 0, 1) := op_3 nN_cX11_count (by decide +kernel)
theorem dX11_count_77 : decode cX11_count 77 = .ok (.iadd, 1) := op_96 nN_cX11_count (by decide +kernel)
theorem dX11_count_78 : decode cX11_count 78 = .ok (.istore 4, 2) := op_54 nN_cX11_count (by decide +kernel)
theorem dX11_count_80 : decode cX11_count 80 = .ok (.iload 5, 2) := op_21 nN_cX11_count (by decide +kernel)
theorem dX11_count_82 : decode cX11_count 82 = .ok (.aload_n 0, 1) := op_42 nN_cX11_count (by decide +kernel)
theorem dX11_count_83 : decode cX11_count 83 = .ok (.iload 6, 2) := op_21 nN_cX11_count (by decide +kernel)
theorem dX11_count_85 : decode cX11_count 85 = .ok (.invokevirtual 197, 3) := op_182 nN_cX11_count (by decide +kernel)
theorem dX11_count_88 : decode cX11_count 88 = .ok (.ifCond .eq 13, 3) := op_153 nN_cX11_count (by decide +kernel)
theorem dX11_count_91 : decode cX11_count 91 = .ok (.aload_n 0, 1) := op_42 nN_cX11_count (by decide +kernel)
theorem dX11_count_92 : decode cX11_count 92 = .ok (.getfield 41, 3) := op_180 nN_cX11_count (by decide +kernel)
theorem dX11_count_95 : decode cX11_count 95 = .ok (.iload 6, 2) := op_21 nN_cX11_count (by decide +kernel)
theorem dX11_count_97 : decode cX11_count 97 = .ok (.iaload, 1) := op_46 nN_cX11_count (by decide +kernel)
theorem dX11_count_98 : decode cX11_count 98 = .ok (.goto 4, 3) := op_167 nN_cX11_count (by decide +kernel)
theorem dX11_count_101 : decode cX11_count 101 = .ok (.iconst 0, 1) := op_3 nN_cX11_count (by decide +kernel)
theorem dX11_count_102 : decode cX11_count 102 = .ok (.iadd, 1) := op_96 nN_cX11_count (by decide +kernel)
theorem dX11_count_103 : decode cX11_count 103 = .ok (.istore 5, 2) := op_54 nN_cX11_count (by decide +kernel)
theorem dX11_count_105 : decode cX11_count 105 = .ok (.iinc 6 1, 3) := op_132 nN_cX11_count (by decide +kernel)
theorem dX11_count_108 : decode cX11_count 108 = .ok (.goto (-95), 3) := op_167 nN_cX11_count (by decide +kernel)
theorem dX11_count_111 : decode cX11_count 111 = .ok (.iload_n 1, 1) := op_27 nN_cX11_count (by decide +kernel)
theorem dX11_count_112 : decode cX11_count 112 = .ok (.tableswitch 78 0 7 #[48, 53, 55, 57, 60, 63, 68, 73], 48) := by decide +kernel
theorem dX11_count_160 : decode cX11_count 160 = .ok (.aload_n 0, 1) := op_42 nN_cX11_count (by decide +kernel)
theorem dX11_count_161 : decode cX11_count 161 = .ok (.getfield 130, 3) := op_180 nN_cX11_count (by decide +kernel)
theorem dX11_count_164 : decode cX11_count 164 = .ok (.ireturn, 1) := op_172 nN_cX11_count (by decide +kernel)
theorem dX11_count_165 : decode cX11_count 165 = .ok (.iload_n 2, 1) := op_28 nN_cX11_count (by decide +kernel)
theorem dX11_count_166 : decode cX11_count 166 = .ok (.ireturn, 1) := op_172 nN_cX11_count (by decide +kernel)
theorem dX11_count_167 : decode cX11_count 167 = .ok (.iload_n 3, 1) := op_29 nN_cX11_count (by decide +kernel)
theorem dX11_count_168 : decode cX11_count 168 = .ok (.ireturn, 1) := op_172 nN_cX11_count (by decide +kernel)
theorem dX11_count_169 : decode cX11_count 169 = .ok (.iload 4, 2) := op_21 nN_cX11_count (by decide +kernel)
theorem dX11_count_171 : decode cX11_count 171 = .ok (.ireturn, 1) := op_172 nN_cX11_count (by decide +kernel)
theorem dX11_count_172 : decode cX11_count 172 = .ok (.iload 5, 2) := op_21 nN_cX11_count (by decide +kernel)
theorem dX11_count_174 : decode cX11_count 174 = .ok (.ireturn, 1) := op_172 nN_cX11_count (by decide +kernel)
theorem dX11_count_175 : decode cX11_count 175 = .ok (.aload_n 0, 1) := op_42 nN_cX11_count (by decide +kernel)
theorem dX11_count_176 : decode cX11_count 176 = .ok (.getfield 257, 3) := op_180 nN_cX11_count (by decide +kernel)
theorem dX11_count_179 : decode cX11_count 179 = .ok (.ireturn, 1) := op_172 nN_cX11_count (by decide +kernel)
theorem dX11_count_180 : decode cX11_count 180 = .ok (.aload_n 0, 1) := op_42 nN_cX11_count (by decide +kernel)
theorem dX11_count_181 : decode cX11_count 181 = .ok (.getfield 263, 3) := op_180 nN_cX11_count (by decide +kernel)
theorem dX11_count_184 : decode cX11_count 184 = .ok (.ireturn, 1) := op_172 nN_cX11_count (by decide +kernel)
theorem dX11_count_185 : decode cX11_count 185 = .ok (.aload_n 0, 1) := op_42 nN_cX11_count (by decide +kernel)
theorem dX11_count_186 : decode cX11_count 186 = .ok (.getfield 123, 3) := op_180 nN_cX11_count (by decide +kernel)
theorem dX11_count_189 : decode cX11_count 189 = .ok (.ireturn, 1) := op_172 nN_cX11_count (by decide +kernel)
theorem dX11_count_190 : decode cX11_count 190 = .ok (.iconst (-1), 1) := op_2 nN_cX11_count (by decide +kernel)
theorem dX11_count_191 : decode cX11_count 191 = .ok (.ireturn, 1) := op_172 nN_cX11_count (by decide +kernel)
theorem nN_cX11_status : onN cX11_status.data.toList = 0xad3c0056a2b := by decide +kernel
theorem dX11_status_0 : decode cX11_status 0 = .ok (.aload_n 0, 1) := op_42 nN_cX11_status (by decide +kernel)
theorem dX11_status_1 : decode cX11_status 1 = .ok (.getfield 119, 3) := op_180 nN_cX11_status (by decide +kernel)
theorem dX11_status_4 : decode cX11_status 4 = .ok (.ireturn, 1) := op_172 nN_cX11_status (by decide +kernel)
theorem nN_cJxa1e45_init_da8c8 : onN cJxa1e45_init_da8c8.data.toList = 0xb201005702b := by decide +kernel
theorem dJxa1e45_init_da8c8_0 : decode cJxa1e45_init_da8c8 0 = .ok (.aload_n 0, 1) := op_42 nN_cJxa1e45_init_da8c8 (by decide +kernel)
theorem dJxa1e45_init_da8c8_1 : decode cJxa1e45_init_da8c8 1 = .ok (.invokespecial 1, 3) := op_183 nN_cJxa1e45_init_da8c8 (by decide +kernel)
theorem dJxa1e45_init_da8c8_4 : decode cJxa1e45_init_da8c8 4 = .ok (.return_, 1) := op_177 nN_cJxa1e45_init_da8c8 (by decide +kernel)
theorem nN_cJxc12de_init_da8c8 : onN cJxc12de_init_da8c8.data.toList = 0x1640800ad8082b01005702b := by decide +kernel
theorem dJxc12de_init_da8c8_0 : decode cJxc12de_init_da8c8 0 = .ok (.aload_n 0, 1) := op_42 nN_cJxc12de_init_da8c8 (by decide +kernel)
theorem dJxc12de_init_da8c8_1 : decode cJxc12de_init_da8c8 1 = .ok (.invokespecial 1, 3) := op_183 nN_cJxc12de_init_da8c8 (by decide +kernel)
theorem dJxc12de_init_da8c8_4 : decode cJxc12de_init_da8c8 4 = .ok (.aload_n 0, 1) := op_42 nN_cJxc12de_init_da8c8 (by decide +kernel)
theorem dJxc12de_init_da8c8_5 : decode cJxc12de_init_da8c8 5 = .ok (.iconst 0, 1) := op_3 nN_cJxc12de_init_da8c8 (by decide +kernel)
theorem dJxc12de_init_da8c8_6 : decode cJxc12de_init_da8c8 6 = .ok (.putfield 7, 3) := op_181 nN_cJxc12de_init_da8c8 (by decide +kernel)
theorem dJxc12de_init_da8c8_9 : decode cJxc12de_init_da8c8 9 = .ok (.return_, 1) := op_177 nN_cJxc12de_init_da8c8 (by decide +kernel)
theorem nN_cJx4a65c_init_da8c8 : onN cJx4a65c_init_da8c8.data.toList = 0x5902802b614005662b01005702b := by decide +kernel
theorem dJx4a65c_init_da8c8_0 : decode cJx4a65c_init_da8c8 0 = .ok (.aload_n 0, 1) := op_42 nN_cJx4a65c_init_da8c8 (by decide +kernel)
theorem dJx4a65c_init_da8c8_1 : decode cJx4a65c_init_da8c8 1 = .ok (.invokespecial 1, 3) := op_183 nN_cJx4a65c_init_da8c8 (by decide +kernel)
theorem dJx4a65c_init_da8c8_4 : decode cJx4a65c_init_da8c8 4 = .ok (.aload_n 0, 1) := op_42 nN_cJx4a65c_init_da8c8 (by decide +kernel)
theorem dJx4a65c_init_da8c8_5 : decode cJx4a65c_init_da8c8 5 = .ok (.getstatic 39, 3) := op_178 nN_cJx4a65c_init_da8c8 (by decide +kernel)
theorem dJx4a65c_init_da8c8_8 : decode cJx4a65c_init_da8c8 8 = .ok (.putfield 9, 3) := op_181 nN_cJx4a65c_init_da8c8 (by decide +kernel)
theorem dJx4a65c_init_da8c8_11 : decode cJx4a65c_init_da8c8 11 = .ok (.return_, 1) := op_177 nN_cJx4a65c_init_da8c8 (by decide +kernel)
theorem nN_cJx4a65c_grow_92f84 : onN cJx4a65c_grow_92f84.data.toList = 0x5882802b62d82002be28005721c0584456b1050056c5b21805721e050056a2b158fc94015c9ec0a1d32874381d0e8054c2800acc14015a8ac1c014f0747cbf050056a2b := by decide +kernel
theorem dJx4a65c_grow_92f84_0 : decode cJx4a65c_grow_92f84 0 = .ok (.aload_n 0, 1) := op_42 nN_cJx4a65c_grow_92f84 (by decide +kernel)
theorem dJx4a65c_grow_92f84_1 : decode cJx4a65c_grow_92f84 1 = .ok (.getfield 9, 3) := op_180 nN_cJx4a65c_grow_92f84 (by decide +kernel)
theorem dJx4a65c_grow_92f84_4 : decode cJx4a65c_grow_92f84 4 = .ok (.arraylength, 1) := op_190 nN_cJx4a65c_grow_92f84 (by decide +kernel)
theorem dJx4a65c_grow_92f84_5 : decode cJx4a65c_grow_92f84 5 = .ok (.istore_n 2, 1) := op_61 nN_cJx4a65c_grow_92f84 (by decide +kernel)
theorem dJx4a65c_grow_92f84_6 : decode cJx4a65c_grow_92f84 6 = .ok (.iload_n 2, 1) := op_28 nN_cJx4a65c_grow_92f84 (by decide +kernel)
theorem dJx4a65c_grow_92f84_7 : decode cJx4a65c_grow_92f84 7 = .ok (.ifCond .gt 13, 3) := op_157 nN_cJx4a65c_grow_92f84 (by decide +kernel)
theorem dJx4a65c_grow_92f84_10 : decode cJx4a65c_grow_92f84 10 = .ok (.aload_n 0, 1) := op_42 nN_cJx4a65c_grow_92f84 (by decide +kernel)
theorem dJx4a65c_grow_92f84_11 : decode cJx4a65c_grow_92f84 11 = .ok (.getfield 9, 3) := op_180 nN_cJx4a65c_grow_92f84 (by decide +kernel)
theorem dJx4a65c_grow_92f84_14 : decode cJx4a65c_grow_92f84 14 = .ok (.getstatic 39, 3) := op_178 nN_cJx4a65c_grow_92f84 (by decide +kernel)
theorem dJx4a65c_grow_92f84_17 : decode cJx4a65c_grow_92f84 17 = .ok (.if_acmp .eq 28, 3) := op_165 nN_cJx4a65c_grow_92f84 (by decide +kernel)
theorem dJx4a65c_grow_92f84_20 : decode cJx4a65c_grow_92f84 20 = .ok (.iload_n 2, 1) := op_28 nN_cJx4a65c_grow_92f84 (by decide +kernel)
theorem dJx4a65c_grow_92f84_21 : decode cJx4a65c_grow_92f84 21 = .ok (.iload_n 1, 1) := op_27 nN_cJx4a65c_grow_92f84 (by decide +kernel)
theorem dJx4a65c_grow_92f84_22 : decode cJx4a65c_grow_92f84 22 = .ok (.iload_n 2, 1) := op_28 nN_cJx4a65c_grow_92f84 (by decide +kernel)
theorem dJx4a65c_grow_92f84_23 : decode cJx4a65c_grow_92f84 23 = .ok (.isub, 1) := op_100 nN_cJx4a65c_grow_92f84 (by decide +kernel)
theorem dJx4a65c_grow_92f84_24 : decode cJx4a65c_grow_92f84 24 = .ok (.iload_n 2, 1) := op_28 nN_cJx4a65c_grow_92f84 (by decide +kernel)
theorem dJx4a65c_grow_92f84_25 : decode cJx4a65c_grow_92f84 25 = .ok (.iconst 1, 1) := op_4 nN_cJx4a65c_grow_92f84 (by decide +kernel)
theorem dJx4a65c_grow_92f84_26 : decode cJx4a65c_grow_92f84 26 = .ok (.ishr, 1) := op_122 nN_cJx4a65c_grow_92f84 (by decide +kernel)
theorem dJx4a65c_grow_92f84_27 : decode cJx4a65c_grow_92f84 27 = .ok (.invokestatic 73, 3) := op_184 nN_cJx4a65c_grow_92f84 (by decide +kernel)
theorem dJx4a65c_grow_92f84_30 : decode cJx4a65c_grow_92f84 30 = .ok (.istore_n 3, 1) := op_62 nN_cJx4a65c_grow_92f84 (by decide +kernel)
theorem dJx4a65c_grow_92f84_31 : decode cJx4a65c_grow_92f84 31 = .ok (.aload_n 0, 1) := op_42 nN_cJx4a65c_grow_92f84 (by decide +kernel)
theorem dJx4a65c_grow_92f84_32 : decode cJx4a65c_grow_92f84 32 = .ok (.aload_n 0, 1) := op_42 nN_cJx4a65c_grow_92f84 (by decide +kernel)
theorem dJx4a65c_grow_92f84_33 : decode cJx4a65c_grow_92f84 33 = .ok (.getfield 9, 3) := op_180 nN_cJx4a65c_grow_92f84 (by decide +kernel)
theorem dJx4a65c_grow_92f84_36 : decode cJx4a65c_grow_92f84 36 = .ok (.iload_n 3, 1) := op_29 nN_cJx4a65c_grow_92f84 (by decide +kernel)
theorem dJx4a65c_grow_92f84_37 : decode cJx4a65c_grow_92f84 37 = .ok (.invokestatic 66, 3) := op_184 nN_cJx4a65c_grow_92f84 (by decide +kernel)
theorem dJx4a65c_grow_92f84_40 : decode cJx4a65c_grow_92f84 40 = .ok (.dup_x1, 1) := op_90 nN_cJx4a65c_grow_92f84 (by decide +kernel)
theorem dJx4a65c_grow_92f84_41 : decode cJx4a65c_grow_92f84 41 = .ok (.putfield 9, 3) := op_181 nN_cJx4a65c_grow_92f84 (by decide +kernel)
theorem dJx4a65c_grow_92f84_44 : decode cJx4a65c_grow_92f84 44 = .ok (.areturn, 1) := op_176 nN_cJx4a65c_grow_92f84 (by decide +kernel)
theorem dJx4a65c_grow_92f84_45 : decode cJx4a65c_grow_92f84 45 = .ok (.aload_n 0, 1) := op_42 nN_cJx4a65c_grow_92f84 (by decide +kernel)
theorem dJx4a65c_grow_92f84_46 : decode cJx4a65c_grow_92f84 46 = .ok (.bipush 10, 2) := op_16 nN_cJx4a65c_grow_92f84 (by decide +kernel)
theorem dJx4a65c_grow_92f84_48 : decode cJx4a65c_grow_92f84 48 = .ok (.iload_n 1, 1) := op_27 nN_cJx4a65c_grow_92f84 (by decide +kernel)
theorem dJx4a65c_grow_92f84_49 : decode cJx4a65c_grow_92f84 49 = .ok (.invokestatic 79, 3) := op_184 nN_cJx4a65c_grow_92f84 (by decide +kernel)
theorem dJx4a65c_grow_92f84_52 : decode cJx4a65c_grow_92f84 52 = .ok (.anewarray 7, 3) := op_189 nN_cJx4a65c_grow_92f84 (by decide +kernel)
theorem dJx4a65c_grow_92f84_55 : decode cJx4a65c_grow_92f84 55 = .ok (.dup_x1, 1) := op_90 nN_cJx4a65c_grow_92f84 (by decide +kernel)
theorem dJx4a65c_grow_92f84_56 : decode cJx4a65c_grow_92f84 56 = .ok (.putfield 9, 3) := op_181 nN_cJx4a65c_grow_92f84 (by decide +kernel)
theorem dJx4a65c_grow_92f84_59 : decode cJx4a65c_grow_92f84 59 = .ok (.areturn, 1) := op_176 nN_cJx4a65c_grow_92f84 (by decide +kernel)
theorem nN_cJx4a65c_grow_d5877 : onN cJx4a65c_grow_d5877.data.toList = 0x2c48c015b9840a3100ad4562b := by decide +kernel
theorem dJx4a65c_grow_d5877_0 : decode cJx4a65c_grow_d5877 0 = .ok (.aload_n 0, 1) := op_42 nN_cJx4a65c_grow_d5877 (by decide +kernel)
theorem dJx4a65c_grow_d5877_1 : decode cJx4a65c_grow_d5877 1 = .ok (.aload_n 0, 1) := op_42 nN_cJx4a65c_grow_d5877 (by decide +kernel)
theorem dJx4a65c_grow_d5877_2 : decode cJx4a65c_grow_d5877 2 = .ok (.getfield 48, 3) := op_180 nN_cJx4a65c_grow_d5877 (by decide +kernel)
theorem dJx4a65c_grow_d5877_5 : decode cJx4a65c_grow_d5877 5 = .ok (.iconst 1, 1) := op_4 nN_cJx4a65c_grow_d5877 (by decide +kernel)
theorem dJx4a65c_grow_d5877_6 : decode cJx4a65c_grow_d5877 6 = .ok (.iadd, 1) := op_96 nN_cJx4a65c_grow_d5877 (by decide +kernel)
theorem dJx4a65c_grow_d5877_7 : decode cJx4a65c_grow_d5877 7 = .ok (.invokevirtual 69, 3) := op_182 nN_cJx4a65c_grow_d5877 (by decide +kernel)
theorem dJx4a65c_grow_d5877_10 : decode cJx4a65c_grow_d5877 10 = .ok (.areturn, 1) := op_176 nN_cJx4a65c_grow_d5877 (by decide +kernel)
theorem nN_cJx4a65c_size_8abf5 : onN cJx4a65c_size_8abf5.data.toList = 0xad188056a2b := by decide +kernel
theorem dJx4a65c_size_8abf5_0 : decode cJx4a65c_size_8abf5 0 = .ok (.aload_n 0, 1) := op_42 nN_cJx4a65c_size_8abf5 (by decide +kernel)
theorem dJx4a65c_size_8abf5_1 : decode cJx4a65c_size_8abf5 1 = .ok (.getfield 48, 3) := op_180 nN_cJx4a65c_size_8abf5 (by decide +kernel)
theorem dJx4a65c_size_8abf5_4 : decode cJx4a65c_size_8abf5 4 = .ok (.ireturn, 1) := op_172 nN_cJx4a65c_size_8abf5 (by decide +kernel)
theorem nN_cJx4a65c_elementData_915e3 : onN cJx4a65c_elementData_915e3.data.toList = 0x2c4661c050056a2b := by decide +kernel
theorem dJx4a65c_elementData_915e3_0 : decode cJx4a65c_elementData_915e3 0 = .ok (.aload_n 0, 1) := op_42 nN_cJx4a65c_elementData_915e3 (by decide +kernel)
theorem dJx4a65c_elementData_915e3_1 : decode cJx4a65c_elementData_915e3 1 = .ok (.getfield 9, 3) := op_180 nN_cJx4a65c_elementData_915e3 (by decide +kernel)
theorem dJx4a65c_elementData_915e3_4 : decode cJx4a65c_elementData_915e3 4 = .ok (.iload_n 1, 1) := op_27 nN_cJx4a65c_elementData_915e3 (by decide +kernel)
theorem dJx4a65c_elementData_915e3_5 : decode cJx4a65c_elementData_915e3 5 = .ok (.aaload, 1) := op_50 nN_cJx4a65c_elementData_915e3 (by decide +kernel)
theorem dJx4a65c_elementData_915e3_6 : decode cJx4a65c_elementData_915e3 6 = .ok (.areturn, 1) := op_176 nN_cJx4a65c_elementData_915e3 (by decide +kernel)
theorem nN_cJx4a65c_get_915e3 : onN cJx4a65c_get_915e3.data.toList = 0x2c4f8015b87056583b805723100ad4561c := by decide +kernel
theorem dJx4a65c_get_915e3_0 : decode cJx4a65c_get_915e3 0 = .ok (.iload_n 1, 1) := op_27 nN_cJx4a65c_get_915e3 (by decide +kernel)
theorem dJx4a65c_get_915e3_1 : decode cJx4a65c_get_915e3 1 = .ok (.aload_n 0, 1) := op_42 nN_cJx4a65c_get_915e3 (by decide +kernel)
theorem dJx4a65c_get_915e3_2 : decode cJx4a65c_get_915e3 2 = .ok (.getfield 48, 3) := op_180 nN_cJx4a65c_get_915e3 (by decide +kernel)
theorem dJx4a65c_get_915e3_5 : decode cJx4a65c_get_915e3 5 = .ok (.invokestatic 118, 3) := op_184 nN_cJx4a65c_get_915e3 (by decide +kernel)
theorem dJx4a65c_get_915e3_8 : decode cJx4a65c_get_915e3 8 = .ok (.pop, 1) := op_87 nN_cJx4a65c_get_915e3 (by decide +kernel)
theorem dJx4a65c_get_915e3_9 : decode cJx4a65c_get_915e3 9 = .ok (.aload_n 0, 1) := op_42 nN_cJx4a65c_get_915e3 (by decide +kernel)
theorem dJx4a65c_get_915e3_10 : decode cJx4a65c_get_915e3 10 = .ok (.iload_n 1, 1) := op_27 nN_cJx4a65c_get_915e3 (by decide +kernel)
theorem dJx4a65c_get_915e3_11 : decode cJx4a65c_get_915e3 11 = .ok (.invokevirtual 123, 3) := op_182 nN_cJx4a65c_get_915e3 (by decide +kernel)
theorem dJx4a65c_get_915e3_14 : decode cJx4a65c_get_915e3 14 = .ok (.areturn, 1) := op_176 nN_cJx4a65c_get_915e3 (by decide +kernel)
theorem nN_cJx4a65c_add_72be8 : onN cJx4a65c_add_72be8.data.toList = 0x2c862015b1840a1e15950581e1693904015b8ac120150afc5a1e := by decide +kernel
theorem dJx4a65c_add_72be8_0 : decode cJx4a65c_add_72be8 0 = .ok (.iload_n 3, 1) := op_29 nN_cJx4a65c_add_72be8 (by decide +kernel)
theorem dJx4a65c_add_72be8_1 : decode cJx4a65c_add_72be8 1 = .ok (.aload_n 2, 1) := op_44 nN_cJx4a65c_add_72be8 (by decide +kernel)
theorem dJx4a65c_add_72be8_2 : decode cJx4a65c_add_72be8 2 = .ok (.arraylength, 1) := op_190 nN_cJx4a65c_add_72be8 (by decide +kernel)
theorem dJx4a65c_add_72be8_3 : decode cJx4a65c_add_72be8 3 = .ok (.if_icmp .ne 8, 3) := op_160 nN_cJx4a65c_add_72be8 (by decide +kernel)
theorem dJx4a65c_add_72be8_6 : decode cJx4a65c_add_72be8 6 = .ok (.aload_n 0, 1) := op_42 nN_cJx4a65c_add_72be8 (by decide +kernel)
theorem dJx4a65c_add_72be8_7 : decode cJx4a65c_add_72be8 7 = .ok (.invokevirtual 129, 3) := op_182 nN_cJx4a65c_add_72be8 (by decide +kernel)
theorem dJx4a65c_add_72be8_10 : decode cJx4a65c_add_72be8 10 = .ok (.astore_n 2, 1) := op_77 nN_cJx4a65c_add_72be8 (by decide +kernel)
theorem dJx4a65c_add_72be8_11 : decode cJx4a65c_add_72be8 11 = .ok (.aload_n 2, 1) := op_44 nN_cJx4a65c_add_72be8 (by decide +kernel)
theorem dJx4a65c_add_72be8_12 : decode cJx4a65c_add_72be8 12 = .ok (.iload_n 3, 1) := op_29 nN_cJx4a65c_add_72be8 (by decide +kernel)
theorem dJx4a65c_add_72be8_13 : decode cJx4a65c_add_72be8 13 = .ok (.aload_n 1, 1) := op_43 nN_cJx4a65c_add_72be8 (by decide +kernel)
theorem dJx4a65c_add_72be8_14 : decode cJx4a65c_add_72be8 14 = .ok (.aastore, 1) := op_83 nN_cJx4a65c_add_72be8 (by decide +kernel)
theorem dJx4a65c_add_72be8_15 : decode cJx4a65c_add_72be8 15 = .ok (.aload_n 0, 1) := op_42 nN_cJx4a65c_add_72be8 (by decide +kernel)
theorem dJx4a65c_add_72be8_16 : decode cJx4a65c_add_72be8 16 = .ok (.iload_n 3, 1) := op_29 nN_cJx4a65c_add_72be8 (by decide +kernel)
theorem dJx4a65c_add_72be8_17 : decode cJx4a65c_add_72be8 17 = .ok (.iconst 1, 1) := op_4 nN_cJx4a65c_add_72be8 (by decide +kernel)
theorem dJx4a65c_add_72be8_18 : decode cJx4a65c_add_72be8 18 = .ok (.iadd, 1) := op_96 nN_cJx4a65c_add_72be8 (by decide +kernel)
theorem dJx4a65c_add_72be8_19 : decode cJx4a65c_add_72be8 19 = .ok (.putfield 48, 3) := op_181 nN_cJx4a65c_add_72be8 (by decide +kernel)
theorem dJx4a65c_add_72be8_22 : decode cJx4a65c_add_72be8 22 = .ok (.return_, 1) := op_177 nN_cJx4a65c_add_72be8 (by decide +kernel)
theorem nN_cJx4a65c_add_9ea2d : onN cJx4a65c_add_9ea2d.data.toList = 0xad02a1002b7188056a2b050056a2b160ac80015b1840a4000ad4b42b := by decide +kernel
theorem dJx4a65c_add_9ea2d_0 : decode cJx4a65c_add_9ea2d 0 = .ok (.aload_n 0, 1) := op_42 nN_cJx4a65c_add_9ea2d (by decide +kernel)
theorem dJx4a65c_add_9ea2d_1 : decode cJx4a65c_add_9ea2d 1 = .ok (.dup, 1) := op_89 nN_cJx4a65c_add_9ea2d (by decide +kernel)
theorem dJx4a65c_add_9ea2d_2 : decode cJx4a65c_add_9ea2d 2 = .ok (.getfield 63, 3) := op_180 nN_cJx4a65c_add_9ea2d (by decide +kernel)
theorem dJx4a65c_add_9ea2d_5 : decode cJx4a65c_add_9ea2d 5 = .ok (.iconst 1, 1) := op_4 nN_cJx4a65c_add_9ea2d (by decide +kernel)
theorem dJx4a65c_add_9ea2d_6 : decode cJx4a65c_add_9ea2d 6 = .ok (.iadd, 1) := op_96 nN_cJx4a65c_add_9ea2d (by decide +kernel)
theorem dJx4a65c_add_9ea2d_7 : decode cJx4a65c_add_9ea2d 7 = .ok (.putfield 63, 3) := op_181 nN_cJx4a65c_add_9ea2d (by decide +kernel)
theorem dJx4a65c_add_9ea2d_10 : decode cJx4a65c_add_9ea2d 10 = .ok (.aload_n 0, 1) := op_42 nN_cJx4a65c_add_9ea2d (by decide +kernel)
theorem dJx4a65c_add_9ea2d_11 : decode cJx4a65c_add_9ea2d 11 = .ok (.aload_n 1, 1) := op_43 nN_cJx4a65c_add_9ea2d (by decide +kernel)
theorem dJx4a65c_add_9ea2d_12 : decode cJx4a65c_add_9ea2d 12 = .ok (.aload_n 0, 1) := op_42 nN_cJx4a65c_add_9ea2d (by decide +kernel)
theorem dJx4a65c_add_9ea2d_13 : decode cJx4a65c_add_9ea2d 13 = .ok (.getfield 9, 3) := op_180 nN_cJx4a65c_add_9ea2d (by decide +kernel)
theorem dJx4a65c_add_9ea2d_16 : decode cJx4a65c_add_9ea2d 16 = .ok (.aload_n 0, 1) := op_42 nN_cJx4a65c_add_9ea2d (by decide +kernel)
theorem dJx4a65c_add_9ea2d_17 : decode cJx4a65c_add_9ea2d 17 = .ok (.getfield 48, 3) := op_180 nN_cJx4a65c_add_9ea2d (by decide +kernel)
theorem dJx4a65c_add_9ea2d_20 : decode cJx4a65c_add_9ea2d 20 = .ok (.invokevirtual 131, 3) := op_182 nN_cJx4a65c_add_9ea2d (by decide +kernel)
theorem dJx4a65c_add_9ea2d_23 : decode cJx4a65c_add_9ea2d 23 = .ok (.iconst 1, 1) := op_4 nN_cJx4a65c_add_9ea2d (by decide +kernel)
theorem dJx4a65c_add_9ea2d_24 : decode cJx4a65c_add_9ea2d 24 = .ok (.ireturn, 1) := op_172 nN_cJx4a65c_add_9ea2d (by decide +kernel)
theorem nN_cJx4a65c_remove_915e3 : onN cJx4a65c_remove_915e3.data.toList = 0x1622e488056e1c168ac9e330e0b49c0a00ad456583b805723100ad4561c := by decide +kernel
theorem dJx4a65c_remove_915e3_0 : decode cJx4a65c_remove_915e3 0 = .ok (.iload_n 1, 1) := op_27 nN_cJx4a65c_remove_915e3 (by decide +kernel)
theorem dJx4a65c_remove_915e3_1 : decode cJx4a65c_remove_915e3 1 = .ok (.aload_n 0, 1) := op_42 nN_cJx4a65c_remove_915e3 (by decide +kernel)
theorem dJx4a65c_remove_915e3_2 : decode cJx4a65c_remove_915e3 2 = .ok (.getfield 48, 3) := op_180 nN_cJx4a65c_remove_915e3 (by decide +kernel)
theorem dJx4a65c_remove_915e3_5 : decode cJx4a65c_remove_915e3 5 = .ok (.invokestatic 118, 3) := op_184 nN_cJx4a65c_remove_915e3 (by decide +kernel)
theorem dJx4a65c_remove_915e3_8 : decode cJx4a65c_remove_915e3 8 = .ok (.pop, 1) := op_87 nN_cJx4a65c_remove_915e3 (by decide +kernel)
theorem dJx4a65c_remove_915e3_9 : decode cJx4a65c_remove_915e3 9 = .ok (.aload_n 0, 1) := op_42 nN_cJx4a65c_remove_915e3 (by decide +kernel)
theorem dJx4a65c_remove_915e3_10 : decode cJx4a65c_remove_915e3 10 = .ok (.getfield 9, 3) := op_180 nN_cJx4a65c_remove_915e3 (by decide +kernel)
theorem dJx4a65c_remove_915e3_13 : decode cJx4a65c_remove_915e3 13 = .ok (.astore_n 2, 1) := op_77 nN_cJx4a65c_remove_915e3 (by decide +kernel)
theorem dJx4a65c_remove_915e3_14 : decode cJx4a65c_remove_915e3 14 = .ok (.aload_n 2, 1) := op_44 nN_cJx4a65c_remove_915e3 (by decide +kernel)
theorem dJx4a65c_remove_915e3_15 : decode cJx4a65c_remove_915e3 15 = .ok (.iload_n 1, 1) := op_27 nN_cJx4a65c_remove_915e3 (by decide +kernel)
theorem dJx4a65c_remove_915e3_16 : decode cJx4a65c_remove_915e3 16 = .ok (.aaload, 1) := op_50 nN_cJx4a65c_remove_915e3 (by decide +kernel)
theorem dJx4a65c_remove_915e3_17 : decode cJx4a65c_remove_915e3 17 = .ok (.astore_n 3, 1) := op_78 nN_cJx4a65c_remove_915e3 (by decide +kernel)
theorem dJx4a65c_remove_915e3_18 : decode cJx4a65c_remove_915e3 18 = .ok (.aload_n 0, 1) := op_42 nN_cJx4a65c_remove_915e3 (by decide +kernel)
theorem dJx4a65c_remove_915e3_19 : decode cJx4a65c_remove_915e3 19 = .ok (.aload_n 2, 1) := op_44 nN_cJx4a65c_remove_915e3 (by decide +kernel)
theorem dJx4a65c_remove_915e3_20 : decode cJx4a65c_remove_915e3 20 = .ok (.iload_n 1, 1) := op_27 nN_cJx4a65c_remove_915e3 (by decide +kernel)
theorem dJx4a65c_remove_915e3_21 : decode cJx4a65c_remove_915e3 21 = .ok (.invokevirtual 144, 3) := op_182 nN_cJx4a65c_remove_915e3 (by decide +kernel)
theorem dJx4a65c_remove_915e3_24 : decode cJx4a65c_remove_915e3 24 = .ok (.aload_n 3, 1) := op_45 nN_cJx4a65c_remove_915e3 (by decide +kernel)
theorem dJx4a65c_remove_915e3_25 : decode cJx4a65c_remove_915e3 25 = .ok (.areturn, 1) := op_176 nN_cJx4a65c_remove_915e3 (by decide +kernel)
theorem nN_cJx4a65c_fastRemove_b59b0 : onN cJx4a65c_fastRemove_b59b0.data.toList = 0x59150043100ad8b61e158b0e2015c9943a1e0e8b0c2050e8b02001528747e5a3281462015a8ac80015b1840a4000ad4b42b := by decide +kernel
theorem dJx4a65c_fastRemove_b59b0_0 : decode cJx4a65c_fastRemove_b59b0 0 = .ok (.aload_n 0, 1) := op_42 nN_cJx4a65c_fastRemove_b59b0 (by decide +kernel)
theorem dJx4a65c_fastRemove_b59b0_1 : decode cJx4a65c_fastRemove_b59b0 1 = .ok (.dup, 1) := op_89 nN_cJx4a65c_fastRemove_b59b0 (by decide +kernel)
theorem dJx4a65c_fastRemove_b59b0_2 : decode cJx4a65c_fastRemove_b59b0 2 = .ok (.getfield 63, 3) := op_180 nN_cJx4a65c_fastRemove_b59b0 (by decide +kernel)
theorem dJx4a65c_fastRemove_b59b0_5 : decode cJx4a65c_fastRemove_b59b0 5 = .ok (.iconst 1, 1) := op_4 nN_cJx4a65c_fastRemove_b59b0 (by decide +kernel)
theorem dJx4a65c_fastRemove_b59b0_6 : decode cJx4a65c_fastRemove_b59b0 6 = .ok (.iadd, 1) := op_96 nN_cJx4a65c_fastRemove_b59b0 (by decide +kernel)
theorem dJx4a65c_fastRemove_b59b0_7 : decode cJx4a65c_fastRemove_b59b0 7 = .ok (.putfield 63, 3) := op_181 nN_cJx4a65c_fastRemove_b59b0 (by decide +kernel)
theorem dJx4a65c_fastRemove_b59b0_10 : decode cJx4a65c_fastRemove_b59b0 10 = .ok (.aload_n 0, 1) := op_42 nN_cJx4a65c_fastRemove_b59b0 (by decide +kernel)
theorem dJx4a65c_fastRemove_b59b0_11 : decode cJx4a65c_fastRemove_b59b0 11 = .ok (.getfield 48, 3) := op_180 nN_cJx4a65c_fastRemove_b59b0 (by decide +kernel)
theorem dJx4a65c_fastRemove_b59b0_14 : decode cJx4a65c_fastRemove_b59b0 14 = .ok (.iconst 1, 1) := op_4 nN_cJx4a65c_fastRemove_b59b0 (by decide +kernel)
theorem dJx4a65c_fastRemove_b59b0_15 : decode cJx4a65c_fastRemove_b59b0 15 = .ok (.isub, 1) := op_100 nN_cJx4a65c_fastRemove_b59b0 (by decide +kernel)
theorem dJx4a65c_fastRemove_b59b0_16 : decode cJx4a65c_fastRemove_b59b0 16 = .ok (.dup, 1) := op_89 nN_cJx4a65c_fastRemove_b59b0 (by decide +kernel)
theorem dJx4a65c_fastRemove_b59b0_17 : decode cJx4a65c_fastRemove_b59b0 17 = .ok (.istore_n 3, 1) := op_62 nN_cJx4a65c_fastRemove_b59b0 (by decide +kernel)
theorem dJx4a65c_fastRemove_b59b0_18 : decode cJx4a65c_fastRemove_b59b0 18 = .ok (.iload_n 2, 1) := op_28 nN_cJx4a65c_fastRemove_b59b0 (by decide +kernel)
theorem dJx4a65c_fastRemove_b59b0_19 : decode cJx4a65c_fastRemove_b59b0 19 = .ok (.if_icmp .le 15, 3) := op_164 nN_cJx4a65c_fastRemove_b59b0 (by decide +kernel)
theorem dJx4a65c_fastRemove_b59b0_34 : decode cJx4a65c_fastRemove_b59b0 34 = .ok (.aload_n 1, 1) := op_43 nN_cJx4a65c_fastRemove_b59b0 (by decide +kernel)
theorem dJx4a65c_fastRemove_b59b0_35 : decode cJx4a65c_fastRemove_b59b0 35 = .ok (.aload_n 0, 1) := op_42 nN_cJx4a65c_fastRemove_b59b0 (by decide +kernel)
theorem dJx4a65c_fastRemove_b59b0_36 : decode cJx4a65c_fastRemove_b59b0 36 = .ok (.iload_n 3, 1) := op_29 nN_cJx4a65c_fastRemove_b59b0 (by decide +kernel)
theorem dJx4a65c_fastRemove_b59b0_37 : decode cJx4a65c_fastRemove_b59b0 37 = .ok (.dup_x1, 1) := op_90 nN_cJx4a65c_fastRemove_b59b0 (by decide +kernel)
theorem dJx4a65c_fastRemove_b59b0_38 : decode cJx4a65c_fastRemove_b59b0 38 = .ok (.putfield 48, 3) := op_181 nN_cJx4a65c_fastRemove_b59b0 (by decide +kernel)
theorem dJx4a65c_fastRemove_b59b0_41 : decode cJx4a65c_fastRemove_b59b0 41 = .ok (.aconst_null, 1) := op_1 nN_cJx4a65c_fastRemove_b59b0 (by decide +kernel)
theorem dJx4a65c_fastRemove_b59b0_42 : decode cJx4a65c_fastRemove_b59b0 42 = .ok (.aastore, 1) := op_83 nN_cJx4a65c_fastRemove_b59b0 (by decide +kernel)
theorem dJx4a65c_fastRemove_b59b0_43 : decode cJx4a65c_fastRemove_b59b0 43 = .ok (.return_, 1) := op_177 nN_cJx4a65c_fastRemove_b59b0 (by decide +kernel)
theorem nN_cJ7_copyOf_1904c : onN cJ7_copyOf_1904c.data.toList = 0x1622d012e4ae015b8ac382b := by decide +kernel
theorem dJ7_copyOf_1904c_0 : decode cJ7_copyOf_1904c 0 = .ok (.aload_n 0, 1) := op_42 nN_cJ7_copyOf_1904c (by decide +kernel)
theorem dJ7_copyOf_1904c_1 : decode cJ7_copyOf_1904c 1 = .ok (.iload_n 1, 1) := op_27 nN_cJ7_copyOf_1904c (by decide +kernel)
theorem dJ7_copyOf_1904c_2 : decode cJ7_copyOf_1904c 2 = .ok (.aload_n 0, 1) := op_42 nN_cJ7_copyOf_1904c (by decide +kernel)
theorem dJ7_copyOf_1904c_3 : decode cJ7_copyOf_1904c 3 = .ok (.invokevirtual 86, 3) := op_182 nN_cJ7_copyOf_1904c (by decide +kernel)
theorem dJ7_copyOf_1904c_6 : decode cJ7_copyOf_1904c 6 = .ok (.invokestatic 300, 3) := op_184 nN_cJ7_copyOf_1904c (by decide +kernel)
theorem dJ7_copyOf_1904c_9 : decode cJ7_copyOf_1904c 9 = .ok (.areturn, 1) := op_176 nN_cJ7_copyOf_1904c (by decide +kernel)
theorem nN_cJ7_copyOf_6403c : onN cJ7_copyOf_6403c.data.toList = 0x588b92e015c8c404b90e2fc560417010564f37805826000ae4385b00adc5a0f00aa006015f0701601539bc262d := by decide +kernel
theorem dJ7_copyOf_6403c_0 : decode cJ7_copyOf_6403c 0 = .ok (.aload_n 2, 1) := op_44 nN_cJ7_copyOf_6403c (by decide +kernel)
theorem dJ7_copyOf_6403c_1 : decode cJ7_copyOf_6403c 1 = .ok (.ldc 110, 2) := op_18 nN_cJ7_copyOf_6403c (by decide +kernel)
theorem dJ7_copyOf_6403c_3 : decode cJ7_copyOf_6403c 3 = .ok (.if_acmp .ne 10, 3) := op_166 nN_cJ7_copyOf_6403c (by decide +kernel)
theorem dJ7_copyOf_6403c_6 : decode cJ7_copyOf_6403c 6 = .ok (.iload_n 1, 1) := op_27 nN_cJ7_copyOf_6403c (by decide +kernel)
theorem dJ7_copyOf_6403c_7 : decode cJ7_copyOf_6403c 7 = .ok (.anewarray 2, 3) := op_189 nN_cJ7_copyOf_6403c (by decide +kernel)
theorem dJ7_copyOf_6403c_10 : decode cJ7_copyOf_6403c 10 = .ok (.goto 14, 3) := op_167 nN_cJ7_copyOf_6403c (by decide +kernel)
theorem dJ7_copyOf_6403c_24 : decode cJ7_copyOf_6403c 24 = .ok (.astore_n 3, 1) := op_78 nN_cJ7_copyOf_6403c (by decide +kernel)
theorem dJ7_copyOf_6403c_25 : decode cJ7_copyOf_6403c 25 = .ok (.aload_n 0, 1) := op_42 nN_cJ7_copyOf_6403c (by decide +kernel)
theorem dJ7_copyOf_6403c_26 : decode cJ7_copyOf_6403c 26 = .ok (.iconst 0, 1) := op_3 nN_cJ7_copyOf_6403c (by decide +kernel)
theorem dJ7_copyOf_6403c_27 : decode cJ7_copyOf_6403c 27 = .ok (.aload_n 3, 1) := op_45 nN_cJ7_copyOf_6403c (by decide +kernel)
theorem dJ7_copyOf_6403c_28 : decode cJ7_copyOf_6403c 28 = .ok (.iconst 0, 1) := op_3 nN_cJ7_copyOf_6403c (by decide +kernel)
theorem dJ7_copyOf_6403c_29 : decode cJ7_copyOf_6403c 29 = .ok (.aload_n 0, 1) := op_42 nN_cJ7_copyOf_6403c (by decide +kernel)
theorem dJ7_copyOf_6403c_30 : decode cJ7_copyOf_6403c 30 = .ok (.arraylength, 1) := op_190 nN_cJ7_copyOf_6403c (by decide +kernel)
theorem dJ7_copyOf_6403c_31 : decode cJ7_copyOf_6403c 31 = .ok (.iload_n 1, 1) := op_27 nN_cJ7_copyOf_6403c (by decide +kernel)
theorem dJ7_copyOf_6403c_32 : decode cJ7_copyOf_6403c 32 = .ok (.invokestatic 304, 3) := op_184 nN_cJ7_copyOf_6403c (by decide +kernel)
theorem dJ7_copyOf_6403c_35 : decode cJ7_copyOf_6403c 35 = .ok (.invokestatic 150, 3) := op_184 nN_cJ7_copyOf_6403c (by decide +kernel)
theorem dJ7_copyOf_6403c_38 : decode cJ7_copyOf_6403c 38 = .ok (.aload_n 3, 1) := op_45 nN_cJ7_copyOf_6403c (by decide +kernel)
theorem dJ7_copyOf_6403c_39 : decode cJ7_copyOf_6403c 39 = .ok (.areturn, 1) := op_176 nN_cJ7_copyOf_6403c (by decide +kernel)
theorem nN_cJ15_checkIndex_7cf53 : onN cJ15_checkIndex_7cf53.data.toList = 0x2b4d4015c808381b := by decide +kernel
theorem dJ15_checkIndex_7cf53_0 : decode cJ15_checkIndex_7cf53 0 = .ok (.iload_n 0, 1) := op_26 nN_cJ15_checkIndex_7cf53 (by decide +kernel)
theorem dJ15_checkIndex_7cf53_1 : decode cJ15_checkIndex_7cf53 1 = .ok (.iload_n 1, 1) := op_27 nN_cJ15_checkIndex_7cf53 (by decide +kernel)
theorem dJ15_checkIndex_7cf53_2 : decode cJ15_checkIndex_7cf53 2 = .ok (.aconst_null, 1) := op_1 nN_cJ15_checkIndex_7cf53 (by decide +kernel)
theorem dJ15_checkIndex_7cf53_3 : decode cJ15_checkIndex_7cf53 3 = .ok (.invokestatic 105, 3) := op_184 nN_cJ15_checkIndex_7cf53 (by decide +kernel)
theorem dJ15_checkIndex_7cf53_6 : decode cJ15_checkIndex_7cf53 6 = .ok (.ireturn, 1) := op_172 nN_cJ15_checkIndex_7cf53 (by decide +kernel)
theorem nN_cJ8_newLength_cabcc : onN cJ8_newLength_cabcc.data.toList = 0x2b594015c87036ad0f01802a46484c3c0c00a8c3c041f98586015c874381b := by decide +kernel
theorem dJ8_newLength_cabcc_0 : decode cJ8_newLength_cabcc 0 = .ok (.iload_n 0, 1) := op_26 nN_cJ8_newLength_cabcc (by decide +kernel)
theorem dJ8_newLength_cabcc_1 : decode cJ8_newLength_cabcc 1 = .ok (.iload_n 1, 1) := op_27 nN_cJ8_newLength_cabcc (by decide +kernel)
theorem dJ8_newLength_cabcc_2 : decode cJ8_newLength_cabcc 2 = .ok (.iload_n 2, 1) := op_28 nN_cJ8_newLength_cabcc (by decide +kernel)
theorem dJ8_newLength_cabcc_3 : decode cJ8_newLength_cabcc 3 = .ok (.invokestatic 194, 3) := op_184 nN_cJ8_newLength_cabcc (by decide +kernel)
theorem dJ8_newLength_cabcc_6 : decode cJ8_newLength_cabcc 6 = .ok (.iadd, 1) := op_96 nN_cJ8_newLength_cabcc (by decide +kernel)
theorem dJ8_newLength_cabcc_7 : decode cJ8_newLength_cabcc 7 = .ok (.istore_n 3, 1) := op_62 nN_cJ8_newLength_cabcc (by decide +kernel)
theorem dJ8_newLength_cabcc_8 : decode cJ8_newLength_cabcc 8 = .ok (.iconst 0, 1) := op_3 nN_cJ8_newLength_cabcc (by decide +kernel)
theorem dJ8_newLength_cabcc_9 : decode cJ8_newLength_cabcc 9 = .ok (.iload_n 3, 1) := op_29 nN_cJ8_newLength_cabcc (by decide +kernel)
theorem dJ8_newLength_cabcc_10 : decode cJ8_newLength_cabcc 10 = .ok (.if_icmp .ge 11, 3) := op_162 nN_cJ8_newLength_cabcc (by decide +kernel)
theorem dJ8_newLength_cabcc_13 : decode cJ8_newLength_cabcc 13 = .ok (.iload_n 3, 1) := op_29 nN_cJ8_newLength_cabcc (by decide +kernel)
theorem dJ8_newLength_cabcc_14 : decode cJ8_newLength_cabcc 14 = .ok (.ldc 200, 2) := op_18 nN_cJ8_newLength_cabcc (by decide +kernel)
theorem dJ8_newLength_cabcc_16 : decode cJ8_newLength_cabcc 16 = .ok (.if_icmp .gt 5, 3) := op_163 nN_cJ8_newLength_cabcc (by decide +kernel)
theorem dJ8_newLength_cabcc_19 : decode cJ8_newLength_cabcc 19 = .ok (.iload_n 3, 1) := op_29 nN_cJ8_newLength_cabcc (by decide +kernel)
theorem dJ8_newLength_cabcc_20 : decode cJ8_newLength_cabcc 20 = .ok (.ireturn, 1) := op_172 nN_cJ8_newLength_cabcc (by decide +kernel)
theorem nN_cJ3_checkIndex_8e157 : onN cJ3_checkIndex_8e157.data.toList = 0x15a1b6018002b90e06c5a0b00a88381b04805381b := by decide +kernel
theorem dJ3_checkIndex_8e157_0 : decode cJ3_checkIndex_8e157 0 = .ok (.iload_n 0, 1) := op_26 nN_cJ3_checkIndex_8e157 (by decide +kernel)
theorem dJ3_checkIndex_8e157_1 : decode cJ3_checkIndex_8e157 1 = .ok (.ifCond .lt 8, 3) := op_155 nN_cJ3_checkIndex_8e157 (by decide +kernel)
theorem dJ3_checkIndex_8e157_4 : decode cJ3_checkIndex_8e157 4 = .ok (.iload_n 0, 1) := op_26 nN_cJ3_checkIndex_8e157 (by decide +kernel)
theorem dJ3_checkIndex_8e157_5 : decode cJ3_checkIndex_8e157 5 = .ok (.iload_n 1, 1) := op_27 nN_cJ3_checkIndex_8e157 (by decide +kernel)
theorem dJ3_checkIndex_8e157_6 : decode cJ3_checkIndex_8e157 6 = .ok (.if_icmp .lt 10, 3) := op_161 nN_cJ3_checkIndex_8e157 (by decide +kernel)
theorem dJ3_checkIndex_8e157_16 : decode cJ3_checkIndex_8e157 16 = .ok (.iload_n 0, 1) := op_26 nN_cJ3_checkIndex_8e157 (by decide +kernel)
theorem dJ3_checkIndex_8e157_17 : decode cJ3_checkIndex_8e157 17 = .ok (.ireturn, 1) := op_172 nN_cJ3_checkIndex_8e157 (by decide +kernel)
end
section
/-! what the tables say and no word carries: the nest, the casts, the arrays of objects -/
def zXN (U : State) : Prop := va_Nw (.methodLinkNest "ScaleShop$Row" 88 ⟨"ScaleShop", "isPlace", "(II)Z"⟩ "ScaleShop") U ∧ va_Nw (.castable "ScaleShop$Step" "java/lang/Object") U ∧ va_AO "ScaleShop$Feature" U ∧ va_AO "java/lang/Object" U
theorem zXN_c (a : Array Value) (U : State) (g : JFrame) (mk : MethodId) (h : zXN U) : zXN (U.calling g mk a) :=
  ⟨va_Nw.same (u := U) (U := U.calling g mk a) rfl rfl h.1, va_Nw.same (u := U) (U := U.calling g mk a) rfl rfl h.2.1, va_AO.moved (u := U) (U := U.calling g mk a) (Vm.Alike.refl U.vm) h.2.2.1, va_AO.moved (u := U) (U := U.calling g mk a) (Vm.Alike.refl U.vm) h.2.2.2⟩
theorem zXN_w {s U : State} (hW : s.WarmedH U.vm) (h : zXN s) : zXN U := ⟨va_Nw.warmM hW h.1, va_Nw.warmC hW h.2.1, va_AO.moved hW.alike h.2.2.1, va_AO.moved hW.alike h.2.2.2⟩
theorem zPS2 {s : State} {H : Heap} {D : va_G} {cl : List vw_C} {tys : List (ClassId × FieldType)} {w : va_W} {A : Nat → Prop} {av : List Value} (hP : va_P D cl w H) (hD : va_D A w) (hK : va_K D cl tys s) (hX : zXN s) : PreS s H (va_Pc av (zPre D cl tys w H.size zXN)) av :=
  ⟨zBlind zXN_c, zAt hP hD hK (fun _ _ hW => zXN_w hW hX)⟩
theorem zPV2 {s : State} {H : Heap} {D : va_G} {cl : List vw_C} {tys : List (ClassId × FieldType)} {w : va_W} {A : Nat → Prop} {b q0 ci : Nat} {C : String} {T : u_T} {N : Nat} {fs : List Value} {As : List Value} (hP : va_P D cl w H) (hD : va_D A w) (hK : va_K D cl tys s) (hX : zXN s) (hc : cl[ci]? = some (C, T, N)) (he : w[q0]? = some (b, .inr (ci, fs))) : PreV s H C b (va_Pc (.ref b :: As) (zPre D cl tys w H.size zXN)) As :=
  ⟨zBlind zXN_c, va_recv hK hP hc he, zAt hP hD hK (fun _ _ hW => zXN_w hW hX)⟩
/-! places and edges, by whole numbers -/
def pl (v : Int32) : Prop := 0 ≤ v.toInt ∧ v.toInt ≤ 1000
def cr (a1 a2 b1 b2 x y : Int) : Int := (b1 - a1) * (y - a2) - (b2 - a2) * (x - a1)
theorem mulB {u v : Int} (h1 : -1000 ≤ u) (h2 : u ≤ 1000) (h3 : -1000 ≤ v) (h4 : v ≤ 1000) : -1000000 ≤ u * v ∧ u * v ≤ 1000000 := by
  have a := Int.mul_nonneg (show 0 ≤ 1000 - u by omega) (show 0 ≤ 1000 - v by omega)
  have b := Int.mul_nonneg (show 0 ≤ 1000 + u by omega) (show 0 ≤ 1000 + v by omega)
  have c := Int.mul_nonneg (show 0 ≤ 1000 - u by omega) (show 0 ≤ 1000 + v by omega)
  have d := Int.mul_nonneg (show 0 ≤ 1000 + u by omega) (show 0 ≤ 1000 - v by omega)
  simp only [Int.sub_mul, Int.mul_sub, Int.add_mul, Int.mul_add] at a b c d
  omega
theorem crB {a1 a2 b1 b2 x y : Int} (h : (0 ≤ a1 ∧ a1 ≤ 1000) ∧ (0 ≤ a2 ∧ a2 ≤ 1000) ∧ (0 ≤ b1 ∧ b1 ≤ 1000) ∧ (0 ≤ b2 ∧ b2 ≤ 1000) ∧ (0 ≤ x ∧ x ≤ 1000) ∧ (0 ≤ y ∧ y ≤ 1000)) : -2000000 ≤ cr a1 a2 b1 b2 x y ∧ cr a1 a2 b1 b2 x y ≤ 2000000 := by
  have p := mulB (u := b1 - a1) (v := y - a2) (by omega) (by omega) (by omega) (by omega)
  have q := mulB (u := b2 - a2) (v := x - a1) (by omega) (by omega) (by omega) (by omega)
  unfold cr; omega
theorem crI {a1 a2 b1 b2 x y : Int32} (h1 : pl a1) (h2 : pl a2) (h3 : pl b1) (h4 : pl b2) (h5 : pl x) (h6 : pl y) : (b1 - a1) * (y - a2) - (b2 - a2) * (x - a1) = iI (cr a1.toInt a2.toInt b1.toInt b2.toInt x.toInt y.toInt) := by
  unfold pl at h1 h2 h3 h4 h5 h6
  have e1 : (b1 - a1).toInt = b1.toInt - a1.toInt := fb_subI (by omega) (by omega)
  have e2 : (y - a2).toInt = y.toInt - a2.toInt := fb_subI (by omega) (by omega)
  have e3 : (b2 - a2).toInt = b2.toInt - a2.toInt := fb_subI (by omega) (by omega)
  have e4 : (x - a1).toInt = x.toInt - a1.toInt := fb_subI (by omega) (by omega)
  have p := mulB (u := b1.toInt - a1.toInt) (v := y.toInt - a2.toInt) (by omega) (by omega) (by omega) (by omega)
  have q := mulB (u := b2.toInt - a2.toInt) (v := x.toInt - a1.toInt) (by omega) (by omega) (by omega) (by omega)
  have f1 : ((b1 - a1) * (y - a2)).toInt = (b1.toInt - a1.toInt) * (y.toInt - a2.toInt) := by rw [fb_mulI (by rw [e1, e2]; omega) (by rw [e1, e2]; omega), e1, e2]
  have f2 : ((b2 - a2) * (x - a1)).toInt = (b2.toInt - a2.toInt) * (x.toInt - a1.toInt) := by rw [fb_mulI (by rw [e3, e4]; omega) (by rw [e3, e4]; omega), e3, e4]
  refine iI_of ?_
  rw [fb_subI (by rw [f1, f2]; omega) (by rw [f1, f2]; omega), f1, f2]
  rfl
def onS (a1 a2 b1 b2 x y : Int) : Prop := cr a1 a2 b1 b2 x y = 0 ∧ min a1 b1 ≤ x ∧ x ≤ max a1 b1 ∧ min a2 b2 ≤ y ∧ y ≤ max a2 b2
/-- two edges have a point in common, as the class tells it -/
def mtC (a1 a2 b1 b2 c1 c2 d1 d2 : Int) : Prop :=
  ¬ ((a1 < c1 ∧ b1 < c1 ∧ a1 < d1 ∧ b1 < d1) ∨ (c1 < a1 ∧ c1 < b1 ∧ d1 < a1 ∧ d1 < b1)) ∧ ¬ ((a2 < c2 ∧ b2 < c2 ∧ a2 < d2 ∧ b2 < d2) ∨ (c2 < a2 ∧ c2 < b2 ∧ d2 < a2 ∧ d2 < b2)) ∧
  ¬ ((0 < cr a1 a2 b1 b2 c1 c2 ∧ 0 < cr a1 a2 b1 b2 d1 d2) ∨ (cr a1 a2 b1 b2 c1 c2 < 0 ∧ cr a1 a2 b1 b2 d1 d2 < 0)) ∧ ¬ ((0 < cr c1 c2 d1 d2 a1 a2 ∧ 0 < cr c1 c2 d1 d2 b1 b2) ∨ (cr c1 c2 d1 d2 a1 a2 < 0 ∧ cr c1 c2 d1 d2 b1 b2 < 0))
def nxt (n i : Nat) : Nat := if i + 1 < n then i + 1 else 0
def prv (n i : Nat) : Nat := if 0 < i then i - 1 else n - 1
def edg (n : Nat) (rg : Int32) : Nat := if n < 2 then 0 else if rg.toInt = 0 then n - 1 else n
def prt (n : Nat) (rg : Int32) : Nat := if n = 1 then 1 else edg n rg
theorem nxt_lt {n i : Nat} (h : 0 < n) : nxt n i < n := by unfold nxt; split <;> omega
theorem prv_lt {n i : Nat} (h : i < n) : prv n i < n := by unfold prv; split <;> omega
theorem edg_le (n : Nat) (rg : Int32) : edg n rg ≤ n := by unfold edg; split <;> (try split) <;> omega
theorem prt_le (n : Nat) (rg : Int32) : prt n rg ≤ n := by unfold prt; split; omega; exact edg_le n rg
/-- all corners are places -/
def pls (n : Nat) (X Y : Nat → Int32) : Prop := ∀ k, k < n → pl (X k) ∧ pl (Y k)
def eOn (n : Nat) (X Y : Nat → Int32) (i : Nat) (x y : Int) : Prop := onS (X i).toInt (Y i).toInt (X (nxt n i)).toInt (Y (nxt n i)).toInt x y
def eMt (n : Nat) (X Y : Nat → Int32) (i : Nat) (m : Nat) (U V : Nat → Int32) (j : Nat) : Prop := mtC (X i).toInt (Y i).toInt (X (nxt n i)).toInt (Y (nxt n i)).toInt (U j).toInt (V j).toInt (U (nxt m j)).toInt (V (nxt m j)).toInt
def eCr (n : Nat) (X Y : Nat → Int32) (i : Nat) (x y : Int) : Int := cr (X i).toInt (Y i).toInt (X (nxt n i)).toInt (Y (nxt n i)).toInt x y
theorem crBp {a1 a2 b1 b2 x y : Int32} (h1 : pl a1) (h2 : pl a2) (h3 : pl b1) (h4 : pl b2) (h5 : pl x) (h6 : pl y) : -2000000 ≤ cr a1.toInt a2.toInt b1.toInt b2.toInt x.toInt y.toInt ∧ cr a1.toInt a2.toInt b1.toInt b2.toInt x.toInt y.toInt ≤ 2000000 := crB ⟨h1, h2, h3, h4, h5, h6⟩
theorem zn_eq {a b : Nat} (h : a = b) : nI a = nI b := by rw [h]
theorem zb_nar {r : Int32} (h : r = 0 ∨ r = 1) : narrow .boolean (.int r) = .int r := by rcases h with rfl | rfl <;> rfl
theorem zb_fit {r : Int32} (h : r = 0 ∨ r = 1) : fits .boolean (.int r) = true := by rcases h with rfl | rfl <;> rfl
end
section
/-! on which side, and how often a ray to the right is crossed -/
def eTg (n : Nat) (X Y : Nat → Int32) (px py : Int) (i : Nat) : Prop := (py < (Y i).toInt ↔ ¬ py < (Y (nxt n i)).toInt) ∧ (((Y i).toInt < (Y (nxt n i)).toInt ∧ 0 < eCr n X Y i px py) ∨ (¬ (Y i).toInt < (Y (nxt n i)).toInt ∧ eCr n X Y i px py < 0))
def par2 (P : Nat → Prop) : Nat → Prop
  | 0 => False
  | i + 1 => (par2 P i ∧ ¬ P i) ∨ (¬ par2 P i ∧ P i)
theorem par2_y {P : Nat → Prop} {i : Nat} (h : P i) : par2 P (i + 1) ↔ ¬ par2 P i := by
  show (par2 P i ∧ ¬ P i) ∨ (¬ par2 P i ∧ P i) ↔ _
  constructor
  · rintro (⟨_, q⟩ | ⟨q, _⟩)
    · exact absurd h q
    · exact q
  · exact fun q => Or.inr ⟨q, h⟩
theorem par2_n {P : Nat → Prop} {i : Nat} (h : ¬ P i) : par2 P (i + 1) ↔ par2 P i := by
  show (par2 P i ∧ ¬ P i) ∨ (¬ par2 P i ∧ P i) ↔ _
  constructor
  · rintro (⟨q, _⟩ | ⟨_, q⟩)
    · exact q
    · exact absurd q h
  · exact fun q => Or.inl ⟨q, h⟩
theorem tg_left {a1 a2 b1 b2 x y : Int} (h1 : a1 < x) (h2 : b1 < x) (h3 : y < a2 ↔ ¬ y < b2) : (a2 < b2 → cr a1 a2 b1 b2 x y < 0) ∧ (¬ a2 < b2 → 0 < cr a1 a2 b1 b2 x y) := by
  unfold cr
  constructor
  · intro h
    have u1 : a2 ≤ y := by omega
    have u2 : y < b2 := by omega
    rcases Int.le_total a1 b1 with q | q
    · have p1 := Int.mul_nonneg (show 0 ≤ b1 - a1 by omega) (show 0 ≤ b2 - y by omega)
      have p2 := Int.mul_pos (show 0 < x - b1 by omega) (show 0 < b2 - a2 by omega)
      grind
    · have p1 := Int.mul_nonneg (show 0 ≤ a1 - b1 by omega) (show 0 ≤ y - a2 by omega)
      have p2 := Int.mul_pos (show 0 < x - a1 by omega) (show 0 < b2 - a2 by omega)
      grind
  · intro h
    have u1 : b2 ≤ y := by omega
    have u2 : y < a2 := by omega
    rcases Int.le_total a1 b1 with q | q
    · have p1 := Int.mul_nonneg (show 0 ≤ b1 - a1 by omega) (show 0 ≤ a2 - y by omega)
      have p2 := Int.mul_pos (show 0 < x - a1 by omega) (show 0 < a2 - b2 by omega)
      have p3 := Int.mul_nonneg (show 0 ≤ b1 - a1 by omega) (show 0 ≤ y - b2 by omega)
      have p4 := Int.mul_pos (show 0 < x - b1 by omega) (show 0 < a2 - b2 by omega)
      grind
    · have p1 := Int.mul_nonneg (show 0 ≤ a1 - b1 by omega) (show 0 ≤ y - b2 by omega)
      have p2 := Int.mul_pos (show 0 < x - a1 by omega) (show 0 < a2 - b2 by omega)
      have p3 := Int.mul_nonneg (show 0 ≤ a1 - b1 by omega) (show 0 ≤ a2 - y by omega)
      grind
/-- a place on the line of an edge, and between its ends' heights, lies on the edge -/
theorem on_of_mid {a1 a2 b1 b2 x y : Int} (h3 : y < a2 ↔ ¬ y < b2) (h0 : cr a1 a2 b1 b2 x y = 0) : onS a1 a2 b1 b2 x y := by
  refine ⟨h0, ?_, ?_, by omega, by omega⟩
  · by_cases q : x < a1 ∧ x < b1
    · exfalso
      have := tg_left (a1 := -a1) (a2 := a2) (b1 := -b1) (b2 := b2) (x := -x) (y := y) (by omega) (by omega) h3
      have e : cr (-a1) a2 (-b1) b2 (-x) y = - cr a1 a2 b1 b2 x y := by unfold cr; grind
      omega
    · omega
  · by_cases q : a1 < x ∧ b1 < x
    · exfalso
      have := tg_left q.1 q.2 h3
      omega
    · omega
/-- where a place lies to a row: 2 on it, 1 inside, 0 outside -/
noncomputable def whr (n : Nat) (X Y : Nat → Int32) (px py : Int) : Int32 := @ite Int32 (∃ i, i < n ∧ eOn n X Y i px py) (Classical.propDecidable _) 2 (pI (par2 (eTg n X Y px py) n))
theorem whr_2 {n : Nat} {X Y : Nat → Int32} {px py : Int} (h : ∃ i, i < n ∧ eOn n X Y i px py) : whr n X Y px py = 2 := by unfold whr; rw [if_pos h]
theorem whr_n {n : Nat} {X Y : Nat → Int32} {px py : Int} (h : ¬ ∃ i, i < n ∧ eOn n X Y i px py) : whr n X Y px py = pI (par2 (eTg n X Y px py) n) := by unfold whr; rw [if_neg h]
/-- what the class's three tests spare -/
theorem sk_tg {n : Nat} {X Y : Nat → Int32} {px py : Int} {i : Nat} (h : (py < (Y i).toInt ∧ py < (Y (nxt n i)).toInt) ∨ ((Y i).toInt < py ∧ (Y (nxt n i)).toInt < py) ∨ ((X i).toInt < px ∧ (X (nxt n i)).toInt < px)) : ¬ eTg n X Y px py i ∧ ¬ eOn n X Y i px py := by
  unfold eTg eOn onS eCr
  rcases h with h | h | h
  · exact ⟨fun q => by omega, fun q => by omega⟩
  · exact ⟨fun q => by omega, fun q => by omega⟩
  · refine ⟨fun q => ?_, fun q => by omega⟩
    have := tg_left h.1 h.2 q.1
    omega
end
section
/-! two edges that have a point in common: the reference's way and the class's way -/
def mtM (a1 a2 b1 b2 c1 c2 d1 d2 : Int) : Prop :=
  (((0 < cr a1 a2 b1 b2 c1 c2 ∧ cr a1 a2 b1 b2 d1 d2 < 0) ∨ (cr a1 a2 b1 b2 c1 c2 < 0 ∧ 0 < cr a1 a2 b1 b2 d1 d2)) ∧ ((0 < cr c1 c2 d1 d2 a1 a2 ∧ cr c1 c2 d1 d2 b1 b2 < 0) ∨ (cr c1 c2 d1 d2 a1 a2 < 0 ∧ 0 < cr c1 c2 d1 d2 b1 b2))) ∨
  onS a1 a2 b1 b2 c1 c2 ∨ onS a1 a2 b1 b2 d1 d2 ∨ onS c1 c2 d1 d2 a1 a2 ∨ onS c1 c2 d1 d2 b1 b2
theorem nonpos_of_between {a b x : Int} (h1 : min a b ≤ x) (h2 : x ≤ max a b) : (a - x) * (b - x) ≤ 0 := by
  rcases Int.le_total a b with h | h
  · have := Int.mul_nonneg (show 0 ≤ x - a by omega) (show 0 ≤ b - x by omega)
    grind
  · have := Int.mul_nonneg (show 0 ≤ a - x by omega) (show 0 ≤ x - b by omega)
    grind
theorem between_of_nonpos {a b x : Int} (h : (a - x) * (b - x) ≤ 0) : min a b ≤ x ∧ x ≤ max a b := by
  constructor
  · by_cases q : x < a ∧ x < b
    · have := Int.mul_pos (show 0 < a - x by omega) (show 0 < b - x by omega)
      omega
    · omega
  · by_cases q : a < x ∧ b < x
    · have := Int.mul_pos (show 0 < x - a by omega) (show 0 < x - b by omega)
      grind
    · omega
theorem sqn (x : Int) : 0 ≤ x * x := by
  rcases Int.le_total 0 x with h | h
  · exact Int.mul_nonneg h h
  · exact Int.mul_nonneg_of_nonpos_of_nonpos h h
/-- u and v on one line through 0 and against one another: no w has both on one side -/
theorem not_same {u1 u2 v1 v2 w1 w2 : Int} (hc : u1 * v2 = u2 * v1) (h1 : u1 * v1 ≤ 0) (h2 : u2 * v2 ≤ 0) : (w1 * u2 - w2 * u1) * (w1 * v2 - w2 * v1) ≤ 0 := by
  by_cases hp : u1 * v1 = 0
  · have hr : (u1 * v2) * (u1 * v2) = 0 := by
      have : (u1 * v2) * (u1 * v2) = (u1 * v1) * (u2 * v2) := by grind
      rw [this, hp]; simp
    have hr2 : u1 * v2 = 0 := by
      rcases Int.mul_eq_zero.mp hr with h | h <;> exact h
    have hs : 0 ≤ w1 * w1 := sqn w1
    have e : (w1 * u2 - w2 * u1) * (w1 * v2 - w2 * v1) = (w1 * w1) * (u2 * v2) - w1 * w2 * (u1 * v2 + u2 * v1) + (w2 * w2) * (u1 * v1) := by grind
    have e2 : (w1 * w1) * (u2 * v2) ≤ 0 := Int.mul_nonpos_of_nonneg_of_nonpos hs h2
    rw [e, hp, ← hc, hr2]; simp; exact e2
  · have hp : u1 * v1 < 0 := by omega
    have hs : 0 ≤ (w2 * (u1 * v1) - w1 * (u1 * v2)) * (w2 * (u1 * v1) - w1 * (u1 * v2)) := sqn _
    have e : (w2 * (u1 * v1) - w1 * (u1 * v2)) * (w2 * (u1 * v1) - w1 * (u1 * v2)) = (u1 * v1) * ((w1 * u2 - w2 * u1) * (w1 * v2 - w2 * v1)) := by grind
    rw [e] at hs
    exact Int.not_lt.mp fun q => by
      have := Int.mul_neg_of_neg_of_pos hp q
      omega
theorem mt_on {a1 a2 b1 b2 c1 c2 d1 d2 : Int} (h : onS a1 a2 b1 b2 c1 c2) : mtC a1 a2 b1 b2 c1 c2 d1 d2 := by
  obtain ⟨h0, h1, h2, h3, h4⟩ := h
  have k := not_same (u1 := a1 - c1) (u2 := a2 - c2) (v1 := b1 - c1) (v2 := b2 - c2) (w1 := d1 - c1) (w2 := d2 - c2) (by unfold cr at h0; grind) (nonpos_of_between h1 h2) (nonpos_of_between h3 h4)
  have ea : cr c1 c2 d1 d2 a1 a2 = (d1 - c1) * (a2 - c2) - (d2 - c2) * (a1 - c1) := rfl
  have eb : cr c1 c2 d1 d2 b1 b2 = (d1 - c1) * (b2 - c2) - (d2 - c2) * (b1 - c1) := rfl
  rw [← ea, ← eb] at k
  refine ⟨by omega, by omega, by omega, ?_⟩
  rintro (⟨p, q⟩ | ⟨p, q⟩)
  · have := Int.mul_pos p q; omega
  · have := Int.mul_pos_of_neg_of_neg p q; omega
theorem mtC_swap {a1 a2 b1 b2 c1 c2 d1 d2 : Int} (h : mtC a1 a2 b1 b2 c1 c2 d1 d2) : mtC a1 a2 b1 b2 d1 d2 c1 c2 := by
  have e1 : cr d1 d2 c1 c2 a1 a2 = - cr c1 c2 d1 d2 a1 a2 := by unfold cr; grind
  have e2 : cr d1 d2 c1 c2 b1 b2 = - cr c1 c2 d1 d2 b1 b2 := by unfold cr; grind
  obtain ⟨h1, h2, h3, h4⟩ := h
  unfold mtC
  rw [e1, e2]
  exact ⟨fun q => h1 (q.elim (fun q => Or.inl ⟨q.2.2.1, q.2.2.2, q.1, q.2.1⟩) (fun q => Or.inr ⟨q.2.2.1, q.2.2.2, q.1, q.2.1⟩)), fun q => h2 (q.elim (fun q => Or.inl ⟨q.2.2.1, q.2.2.2, q.1, q.2.1⟩) (fun q => Or.inr ⟨q.2.2.1, q.2.2.2, q.1, q.2.1⟩)), fun q => h3 (q.elim (fun q => Or.inl ⟨q.2, q.1⟩) (fun q => Or.inr ⟨q.2, q.1⟩)), fun q => h4 (q.elim (fun q => Or.inr ⟨by have := q.1; clear h1 h2 h3 h4 q e1 e2; omega, by have := q.2; clear h1 h2 h3 h4 q e1 e2; omega⟩) (fun q => Or.inl ⟨by have := q.1; clear h1 h2 h3 h4 q e1 e2; omega, by have := q.2; clear h1 h2 h3 h4 q e1 e2; omega⟩))⟩
theorem mtC_sym {a1 a2 b1 b2 c1 c2 d1 d2 : Int} (h : mtC a1 a2 b1 b2 c1 c2 d1 d2) : mtC c1 c2 d1 d2 a1 a2 b1 b2 := by
  obtain ⟨h1, h2, h3, h4⟩ := h
  exact ⟨fun q => h1 (q.elim (fun q => Or.inr ⟨q.1, q.2.2.1, q.2.1, q.2.2.2⟩) (fun q => Or.inl ⟨q.1, q.2.2.1, q.2.1, q.2.2.2⟩)), fun q => h2 (q.elim (fun q => Or.inr ⟨q.1, q.2.2.1, q.2.1, q.2.2.2⟩) (fun q => Or.inl ⟨q.1, q.2.2.1, q.2.1, q.2.2.2⟩)), h4, h3⟩
/-- two edges that cross: their boxes are not apart (one axis) -/
theorem cross_box {a1 a2 b1 b2 c1 c2 d1 d2 : Int} (h1 : 0 < cr a1 a2 b1 b2 c1 c2) (h2 : cr a1 a2 b1 b2 d1 d2 < 0) (h3 : cr c1 c2 d1 d2 a1 a2 < 0) (h4 : 0 < cr c1 c2 d1 d2 b1 b2) : ¬ (a1 < c1 ∧ b1 < c1 ∧ a1 < d1 ∧ b1 < d1) ∧ ¬ (c1 < a1 ∧ c1 < b1 ∧ d1 < a1 ∧ d1 < b1) := by
  have id1 : c1 * (- cr a1 a2 b1 b2 d1 d2) + d1 * cr a1 a2 b1 b2 c1 c2 = a1 * cr c1 c2 d1 d2 b1 b2 + b1 * (- cr c1 c2 d1 d2 a1 a2) := by unfold cr; grind
  have id2 : cr a1 a2 b1 b2 c1 c2 - cr a1 a2 b1 b2 d1 d2 = cr c1 c2 d1 d2 b1 b2 - cr c1 c2 d1 d2 a1 a2 := by unfold cr; grind
  generalize cr a1 a2 b1 b2 c1 c2 = al at *
  generalize cr a1 a2 b1 b2 d1 d2 = be at *
  generalize cr c1 c2 d1 d2 a1 a2 = ga at *
  generalize cr c1 c2 d1 d2 b1 b2 = de at *
  constructor
  · rintro ⟨q1, q2, q3, q4⟩
    have p1 := Int.mul_pos (show 0 < c1 - max a1 b1 by omega) (show 0 < -be by omega)
    have p2 := Int.mul_pos (show 0 < d1 - max a1 b1 by omega) h1
    have p3 := Int.mul_nonneg (show 0 ≤ max a1 b1 - a1 by omega) (show 0 ≤ de by omega)
    have p4 := Int.mul_nonneg (show 0 ≤ max a1 b1 - b1 by omega) (show 0 ≤ -ga by omega)
    generalize max a1 b1 = M at *
    have e : M * (al - be) = M * (de - ga) := by rw [id2]
    grind
  · rintro ⟨q1, q2, q3, q4⟩
    have p1 := Int.mul_pos (show 0 < min a1 b1 - c1 by omega) (show 0 < -be by omega)
    have p2 := Int.mul_pos (show 0 < min a1 b1 - d1 by omega) h1
    have p3 := Int.mul_nonneg (show 0 ≤ a1 - min a1 b1 by omega) (show 0 ≤ de by omega)
    have p4 := Int.mul_nonneg (show 0 ≤ b1 - min a1 b1 by omega) (show 0 ≤ -ga by omega)
    generalize min a1 b1 = M at *
    have e : M * (al - be) = M * (de - ga) := by rw [id2]
    grind
theorem cr_flip (a1 a2 b1 b2 x y : Int) : cr a2 a1 b2 b1 y x = - cr a1 a2 b1 b2 x y := by unfold cr; grind
theorem cr_rev (a1 a2 b1 b2 x y : Int) : cr b1 b2 a1 a2 x y = - cr a1 a2 b1 b2 x y := by unfold cr; grind
theorem cross_dif (a1 a2 b1 b2 c1 c2 d1 d2 : Int) : cr a1 a2 b1 b2 c1 c2 - cr a1 a2 b1 b2 d1 d2 = cr c1 c2 d1 d2 b1 b2 - cr c1 c2 d1 d2 a1 a2 := by unfold cr; grind
theorem mt_of_M {a1 a2 b1 b2 c1 c2 d1 d2 : Int} (h : mtM a1 a2 b1 b2 c1 c2 d1 d2) : mtC a1 a2 b1 b2 c1 c2 d1 d2 := by
  rcases h with ⟨h1, h2⟩ | h | h | h | h
  · have hd := cross_dif a1 a2 b1 b2 c1 c2 d1 d2
    unfold mtC
    rcases h1 with ⟨p1, p2⟩ | ⟨p1, p2⟩
    · have q : cr c1 c2 d1 d2 a1 a2 < 0 ∧ 0 < cr c1 c2 d1 d2 b1 b2 := by omega
      have k1 := cross_box p1 p2 q.1 q.2
      have k2 := cross_box (a1 := b2) (a2 := b1) (b1 := a2) (b2 := a1) (c1 := c2) (c2 := c1) (d1 := d2) (d2 := d1) (by rw [cr_flip, cr_rev]; omega) (by rw [cr_flip, cr_rev]; omega) (by rw [cr_flip]; omega) (by rw [cr_flip]; omega)
      omega
    · have q : 0 < cr c1 c2 d1 d2 a1 a2 ∧ cr c1 c2 d1 d2 b1 b2 < 0 := by omega
      have k1 := cross_box (a1 := b1) (a2 := b2) (b1 := a1) (b2 := a2) (c1 := c1) (c2 := c2) (d1 := d1) (d2 := d2) (by rw [cr_rev]; omega) (by rw [cr_rev]; omega) q.2 q.1
      have k2 := cross_box (a1 := a2) (a2 := a1) (b1 := b2) (b2 := b1) (c1 := c2) (c2 := c1) (d1 := d2) (d2 := d1) (by rw [cr_flip]; omega) (by rw [cr_flip]; omega) (by rw [cr_flip]; omega) (by rw [cr_flip]; omega)
      omega
  · exact mt_on h
  · exact mtC_swap (mt_on h)
  · exact mtC_sym (mt_on h)
  · exact mtC_sym (mtC_swap (mt_on h))
theorem id_s1 (a1 a2 b1 b2 c1 c2 d1 d2 : Int) : cr c1 c2 d1 d2 a1 a2 * (b1 - c1) - cr c1 c2 d1 d2 b1 b2 * (a1 - c1) = -((d1 - c1) * cr a1 a2 b1 b2 c1 c2) := by unfold cr; grind
theorem id_s2 (a1 a2 b1 b2 c1 c2 d1 d2 : Int) : cr c1 c2 d1 d2 a1 a2 * (b2 - c2) - cr c1 c2 d1 d2 b1 b2 * (a2 - c2) = -((d2 - c2) * cr a1 a2 b1 b2 c1 c2) := by unfold cr; grind
/-- c on the line of a and b, d not on it, a and b not on one side of the line of c and d: c lies between -/
theorem on_of_side {a1 a2 b1 b2 c1 c2 d1 d2 : Int} (h0 : cr a1 a2 b1 b2 c1 c2 = 0) (hd : cr a1 a2 b1 b2 d1 d2 ≠ 0) (hs : ¬ ((0 < cr c1 c2 d1 d2 a1 a2 ∧ 0 < cr c1 c2 d1 d2 b1 b2) ∨ (cr c1 c2 d1 d2 a1 a2 < 0 ∧ cr c1 c2 d1 d2 b1 b2 < 0))) : onS a1 a2 b1 b2 c1 c2 := by
  -- with al = cr c d a, be = cr c d b: al (b - c) = be (a - c)
  have hdif := cross_dif a1 a2 b1 b2 c1 c2 d1 d2
  have i1 : cr c1 c2 d1 d2 a1 a2 * (b1 - c1) = cr c1 c2 d1 d2 b1 b2 * (a1 - c1) := by
    have : cr c1 c2 d1 d2 a1 a2 * (b1 - c1) - cr c1 c2 d1 d2 b1 b2 * (a1 - c1) = -((d1 - c1) * cr a1 a2 b1 b2 c1 c2) := id_s1 ..
    rw [h0] at this; simp at this; omega
  have i2 : cr c1 c2 d1 d2 a1 a2 * (b2 - c2) = cr c1 c2 d1 d2 b1 b2 * (a2 - c2) := by
    have : cr c1 c2 d1 d2 a1 a2 * (b2 - c2) - cr c1 c2 d1 d2 b1 b2 * (a2 - c2) = -((d2 - c2) * cr a1 a2 b1 b2 c1 c2) := id_s2 ..
    rw [h0] at this; simp at this; omega
  generalize cr c1 c2 d1 d2 a1 a2 = al at *
  generalize cr c1 c2 d1 d2 b1 b2 = be at *
  have hne : be - al ≠ 0 := by omega
  have key : ∀ u v : Int, al * v = be * u → u * v ≤ 0 := by
    intro u v e
    have f1 : (al * al) * (u * v) = (al * be) * (u * u) := by grind
    have f2 : (be * be) * (u * v) = (al * be) * (v * v) := by grind
    have g : al * be ≤ 0 := by
      rcases Int.lt_trichotomy al 0 with p | p | p
      · have : 0 ≤ be := by omega
        exact Int.mul_nonpos_of_nonpos_of_nonneg (by omega) this
      · rw [p]; simp
      · have : be ≤ 0 := by omega
        exact Int.mul_nonpos_of_nonneg_of_nonpos (by omega) this
    have g1 : (al * be) * (u * u) ≤ 0 := Int.mul_nonpos_of_nonpos_of_nonneg g (sqn u)
    have g2 : (al * be) * (v * v) ≤ 0 := Int.mul_nonpos_of_nonpos_of_nonneg g (sqn v)
    refine Int.not_lt.mp fun q => ?_
    by_cases pa : al = 0
    · have pb : be ≠ 0 := by omega
      have := Int.mul_pos (show 0 < be * be from by rcases Int.lt_or_gt_of_ne pb with x | x; exact Int.mul_pos_of_neg_of_neg x x; exact Int.mul_pos x x) q
      omega
    · have := Int.mul_pos (show 0 < al * al from by rcases Int.lt_or_gt_of_ne pa with x | x; exact Int.mul_pos_of_neg_of_neg x x; exact Int.mul_pos x x) q
      omega
  have k1 := between_of_nonpos (key (a1 - c1) (b1 - c1) i1)
  have k2 := between_of_nonpos (key (a2 - c2) (b2 - c2) i2)
  exact ⟨h0, k1.1, k1.2, k2.1, k2.2⟩
theorem on_x {a1 a2 b1 b2 x y : Int} (h0 : cr a1 a2 b1 b2 x y = 0) (hne : a1 ≠ b1) (h1 : min a1 b1 ≤ x) (h2 : x ≤ max a1 b1) : onS a1 a2 b1 b2 x y := by
  have n1 := nonpos_of_between h1 h2
  have u1 : (a2 - y) * (b1 - a1) = (b2 - a2) * (a1 - x) := by unfold cr at h0; grind
  have u2 : (b2 - y) * (b1 - a1) = (b2 - a2) * (b1 - x) := by unfold cr at h0; grind
  have e : ((b1 - a1) * (b1 - a1)) * ((a2 - y) * (b2 - y)) = ((b2 - a2) * (b2 - a2)) * ((a1 - x) * (b1 - x)) := by grind
  have g : ((b2 - a2) * (b2 - a2)) * ((a1 - x) * (b1 - x)) ≤ 0 := Int.mul_nonpos_of_nonneg_of_nonpos (sqn _) n1
  have k : (a2 - y) * (b2 - y) ≤ 0 := Int.not_lt.mp fun q => by
    have hv : b1 - a1 ≠ 0 := by omega
    have := Int.mul_pos (show 0 < (b1 - a1) * (b1 - a1) from by rcases Int.lt_or_gt_of_ne hv with x | x; exact Int.mul_pos_of_neg_of_neg x x; exact Int.mul_pos x x) q
    omega
  have := between_of_nonpos k
  exact ⟨h0, h1, h2, this.1, this.2⟩
theorem on_flip {a1 a2 b1 b2 x y : Int} (h : onS a1 a2 b1 b2 x y) : onS a2 a1 b2 b1 y x := ⟨by rw [cr_flip, h.1]; rfl, h.2.2.2.1, h.2.2.2.2, h.2.1, h.2.2.1⟩
theorem coll_b {a b c d : Int} (ov : ¬ ((a < c ∧ b < c ∧ a < d ∧ b < d) ∨ (c < a ∧ c < b ∧ d < a ∧ d < b))) (qc : ¬ (min a b ≤ c ∧ c ≤ max a b)) (qd : ¬ (min a b ≤ d ∧ d ≤ max a b)) : c ≠ d ∧ min c d ≤ a ∧ a ≤ max c d := by
  have hc : (c < a ∧ c < b) ∨ (a < c ∧ b < c) := by clear ov qd; omega
  have hd : (d < a ∧ d < b) ∨ (a < d ∧ b < d) := by clear ov qc hc; omega
  clear qc qd
  rcases hc with hc | hc
  · rcases hd with hd | hd
    · exact absurd (Or.inr ⟨hc.1, hc.2, hd.1, hd.2⟩) ov
    · clear ov; omega
  · rcases hd with hd | hd
    · clear ov; omega
    · exact absurd (Or.inl ⟨hc.1, hc.2, hd.1, hd.2⟩) ov
theorem coll_x {a1 a2 b1 b2 c1 c2 d1 d2 : Int} (h0 : cr a1 a2 b1 b2 c1 c2 = 0) (h1 : cr a1 a2 b1 b2 d1 d2 = 0) (hne : a1 ≠ b1) (ov : ¬ ((a1 < c1 ∧ b1 < c1 ∧ a1 < d1 ∧ b1 < d1) ∨ (c1 < a1 ∧ c1 < b1 ∧ d1 < a1 ∧ d1 < b1))) : onS a1 a2 b1 b2 c1 c2 ∨ onS a1 a2 b1 b2 d1 d2 ∨ onS c1 c2 d1 d2 a1 a2 := by
  by_cases qc : min a1 b1 ≤ c1 ∧ c1 ≤ max a1 b1
  · exact Or.inl (on_x h0 hne qc.1 qc.2)
  · by_cases qd : min a1 b1 ≤ d1 ∧ d1 ≤ max a1 b1
    · exact Or.inr (Or.inl (on_x h1 hne qd.1 qd.2))
    · have hcd : cr c1 c2 d1 d2 a1 a2 = 0 := by
        have e : (b1 - a1) * cr c1 c2 d1 d2 a1 a2 = 0 := by unfold cr at *; grind
        rcases Int.mul_eq_zero.mp e with h | h
        · omega
        · exact h
      have k := coll_b ov qc qd
      exact Or.inr (Or.inr (on_x hcd k.1 k.2.1 k.2.2))
theorem mtM_of_C {a1 a2 b1 b2 c1 c2 d1 d2 : Int} (h : mtC a1 a2 b1 b2 c1 c2 d1 d2) : mtM a1 a2 b1 b2 c1 c2 d1 d2 := by
  obtain ⟨hx, hy, hs, ht⟩ := h
  have hd := cross_dif a1 a2 b1 b2 c1 c2 d1 d2
  unfold mtM
  by_cases al : cr a1 a2 b1 b2 c1 c2 = 0
  · by_cases be : cr a1 a2 b1 b2 d1 d2 = 0
    · by_cases e1 : a1 = b1
      · by_cases e2 : a2 = b2
        · have e : cr c1 c2 d1 d2 b1 b2 = cr c1 c2 d1 d2 a1 a2 := by rw [e1, e2]
          exact Or.inr (Or.inr (Or.inr (Or.inl ⟨by clear hx hy hs hd al be e1 e2; omega, by clear hy hs ht hd al be e e2; omega, by clear hy hs ht hd al be e e2; omega, by clear hx hs ht hd al be e e1; omega, by clear hx hs ht hd al be e e1; omega⟩)))
        · have k := coll_x (a1 := a2) (a2 := a1) (b1 := b2) (b2 := b1) (c1 := c2) (c2 := c1) (d1 := d2) (d2 := d1) (by rw [cr_flip, al]; rfl) (by rw [cr_flip, be]; rfl) e2 hy
          rcases k with k | k | k
          · exact Or.inr (Or.inl (on_flip k))
          · exact Or.inr (Or.inr (Or.inl (on_flip k)))
          · exact Or.inr (Or.inr (Or.inr (Or.inl (on_flip k))))
      · have k := coll_x al be e1 hx
        rcases k with k | k | k
        · exact Or.inr (Or.inl k)
        · exact Or.inr (Or.inr (Or.inl k))
        · exact Or.inr (Or.inr (Or.inr (Or.inl k)))
    · exact Or.inr (Or.inl (on_of_side al be ht))
  · by_cases be : cr a1 a2 b1 b2 d1 d2 = 0
    · exact Or.inr (Or.inr (Or.inl (on_of_side be al (by rw [cr_rev c1 c2 d1 d2, cr_rev c1 c2 d1 d2]; clear hx hy hs hd al be; omega))))
    · by_cases ga : cr c1 c2 d1 d2 a1 a2 = 0
      · exact Or.inr (Or.inr (Or.inr (Or.inl (on_of_side ga (by clear hx hy ht; omega) hs))))
      · by_cases de : cr c1 c2 d1 d2 b1 b2 = 0
        · exact Or.inr (Or.inr (Or.inr (Or.inr (on_of_side de ga (by rw [cr_rev a1 a2 b1 b2, cr_rev a1 a2 b1 b2]; clear hx hy ht hd al be ga de; omega)))))
        · exact Or.inl ⟨by clear hx hy ht hd ga de; omega, by clear hx hy hs hd al be; omega⟩
theorem mtM_iff {a1 a2 b1 b2 c1 c2 d1 d2 : Int} : mtM a1 a2 b1 b2 c1 c2 d1 d2 ↔ mtC a1 a2 b1 b2 c1 c2 d1 d2 := ⟨mt_of_M, mtM_of_C⟩
end
section
/-! the reference's numbers are longs -/
theorem i64 (x : Int32) : (x.toInt64).toInt = x.toInt := Int32.toInt_toInt64 x
theorem crL {a1 a2 b1 b2 x y : Int32} (h1 : pl a1) (h2 : pl a2) (h3 : pl b1) (h4 : pl b2) (h5 : pl x) (h6 : pl y) : (b1.toInt64 - a1.toInt64) * (y.toInt64 - a2.toInt64) - (b2.toInt64 - a2.toInt64) * (x.toInt64 - a1.toInt64) = jI (cr a1.toInt a2.toInt b1.toInt b2.toInt x.toInt y.toInt) := by
  unfold pl at h1 h2 h3 h4 h5 h6
  have s1 := i64 a1; have s2 := i64 a2; have s3 := i64 b1; have s4 := i64 b2; have s5 := i64 x; have s6 := i64 y
  have e1 : (b1.toInt64 - a1.toInt64).toInt = b1.toInt - a1.toInt := by rw [fb_subL (by omega) (by omega), s3, s1]
  have e2 : (y.toInt64 - a2.toInt64).toInt = y.toInt - a2.toInt := by rw [fb_subL (by omega) (by omega), s6, s2]
  have e3 : (b2.toInt64 - a2.toInt64).toInt = b2.toInt - a2.toInt := by rw [fb_subL (by omega) (by omega), s4, s2]
  have e4 : (x.toInt64 - a1.toInt64).toInt = x.toInt - a1.toInt := by rw [fb_subL (by omega) (by omega), s5, s1]
  have p := mulB (u := b1.toInt - a1.toInt) (v := y.toInt - a2.toInt) (by omega) (by omega) (by omega) (by omega)
  have q := mulB (u := b2.toInt - a2.toInt) (v := x.toInt - a1.toInt) (by omega) (by omega) (by omega) (by omega)
  have f1 : ((b1.toInt64 - a1.toInt64) * (y.toInt64 - a2.toInt64)).toInt = (b1.toInt - a1.toInt) * (y.toInt - a2.toInt) := by rw [fb_mulL (by rw [e1, e2]; omega) (by rw [e1, e2]; omega), e1, e2]
  have f2 : ((b2.toInt64 - a2.toInt64) * (x.toInt64 - a1.toInt64)).toInt = (b2.toInt - a2.toInt) * (x.toInt - a1.toInt) := by rw [fb_mulL (by rw [e3, e4]; omega) (by rw [e3, e4]; omega), e3, e4]
  refine jI_of ?_
  rw [fb_subL (by rw [f1, f2]; omega) (by rw [f1, f2]; omega), f1, f2]
  rfl
def sg (z : Int) : Int := if 0 < z then 1 else if z < 0 then -1 else 0
theorem sgB (z : Int) : -1 ≤ sg z ∧ sg z ≤ 1 := by unfold sg; split <;> (try split) <;> omega
theorem sg_mul (y z : Int) : iI (sg y) * iI (sg z) = iI (sg y * sg z) := by
  have a := sgB y; have b := sgB z
  have hm : -1 ≤ sg y * sg z ∧ sg y * sg z ≤ 1 := by
    rcases (show sg y = -1 ∨ sg y = 0 ∨ sg y = 1 by omega) with h | h | h <;> rw [h] <;> omega
  refine iI_of ?_
  rw [fb_mulI (by rw [iI_toInt (by omega), iI_toInt (by omega)]; omega) (by rw [iI_toInt (by omega), iI_toInt (by omega)]; omega), iI_toInt (by omega), iI_toInt (by omega)]
theorem sgmB (y z : Int) : -1 ≤ sg y * sg z ∧ sg y * sg z ≤ 1 := by
  have a := sgB y; have b := sgB z
  rcases (show sg y = -1 ∨ sg y = 0 ∨ sg y = 1 by omega) with h | h | h <;> rw [h] <;> omega
theorem sg_neg {y z : Int} : sg y * sg z < 0 ↔ (0 < y ∧ z < 0) ∨ (y < 0 ∧ 0 < z) := by
  unfold sg
  split <;> (try split) <;> (try split) <;> (try split) <;> omega
def eO (k : Int) (n : Nat) : Nat := if k = 0 then 1 else if 5 ≤ k then n else n - 1
/-- the corners of feature f in the reference's rows -/
abbrev cF40 (c : Nat → Int32) (f : Nat) : Nat → Int32 := fun k => c (40 * f + k)
theorem zabs {x : Int32} {z : Int} (hx : x.toInt = z) (h : -2147483648 < z ∧ z < 2147483648) : (if 0 ≤ x then x else 0 - x) = nI (Int.natAbs z) := by
  by_cases q : (0 : Int32) ≤ x
  · rw [if_pos q]
    have := zc_le (x := 0) (y := x) (a := 0) (by decide) hx q
    refine Int32.toInt_inj.mp ?_
    rw [hx, nI_toInt (by omega)]; omega
  · rw [if_neg q]
    have := zc_nle (x := 0) (y := x) (a := 0) (by decide) hx q
    have e0 : (0 : Int32).toInt = 0 := by decide
    refine Int32.toInt_inj.mp ?_
    rw [nI_toInt (by omega), fb_subI (by rw [e0, hx]; omega) (by rw [e0, hx]; omega), e0, hx]; omega
theorem mlB {x y u v : Int32} (h1 : pl x) (h2 : pl y) (h3 : pl u) (h4 : pl v) : -1000000 ≤ (x.toInt - y.toInt) * (u.toInt - v.toInt) ∧ (x.toInt - y.toInt) * (u.toInt - v.toInt) ≤ 1000000 := by
  unfold pl at h1 h2 h3 h4; exact mulB (by omega) (by omega) (by omega) (by omega)
theorem mlI {x y u v : Int32} (h1 : pl x) (h2 : pl y) (h3 : pl u) (h4 : pl v) : (x - y) * (u - v) = iI ((x.toInt - y.toInt) * (u.toInt - v.toInt)) := by
  have b := mlB h1 h2 h3 h4
  unfold pl at h1 h2 h3 h4
  have e1 : (x - y).toInt = x.toInt - y.toInt := fb_subI (by omega) (by omega)
  have e2 : (u - v).toInt = u.toInt - v.toInt := fb_subI (by omega) (by omega)
  refine iI_of ?_
  rw [fb_mulI (by rw [e1, e2]; omega) (by rw [e1, e2]; omega), e1, e2]
theorem iI_add {y z : Int} (h1 : -1000000000 ≤ y ∧ y ≤ 1000000000) (h2 : -1000000000 ≤ z ∧ z ≤ 1000000000) : iI y + iI z = iI (y + z) := by
  refine iI_of ?_
  rw [fb_addI (by rw [iI_toInt (by omega), iI_toInt (by omega)]; omega) (by rw [iI_toInt (by omega), iI_toInt (by omega)]; omega), iI_toInt (by omega), iI_toInt (by omega)]
def dt (a1 a2 b1 b2 c1 c2 : Int) : Int := (a1 - b1) * (c1 - b1) + (a2 - b2) * (c2 - b2)
theorem dtI {a1 a2 b1 b2 c1 c2 : Int32} (h1 : pl a1) (h2 : pl a2) (h3 : pl b1) (h4 : pl b2) (h5 : pl c1) (h6 : pl c2) : (a1 - b1) * (c1 - b1) + (a2 - b2) * (c2 - b2) = iI (dt a1.toInt a2.toInt b1.toInt b2.toInt c1.toInt c2.toInt) := by
  have p := mlB h1 h3 h5 h3; have q := mlB h2 h4 h6 h4
  rw [mlI h1 h3 h5 h3, mlI h2 h4 h6 h4, iI_add (by omega) (by omega)]; rfl
theorem dtB {a1 a2 b1 b2 c1 c2 : Int32} (h1 : pl a1) (h2 : pl a2) (h3 : pl b1) (h4 : pl b2) (h5 : pl c1) (h6 : pl c2) : -2000000 ≤ dt a1.toInt a2.toInt b1.toInt b2.toInt c1.toInt c2.toInt ∧ dt a1.toInt a2.toInt b1.toInt b2.toInt c1.toInt c2.toInt ≤ 2000000 := by
  have p := mlB h1 h3 h5 h3; have q := mlB h2 h4 h6 h4
  unfold dt; omega
/-- two edges a b, b c lie one on the other -/
def fld (a1 a2 b1 b2 c1 c2 : Int) : Prop := cr a1 a2 b1 b2 c1 c2 = 0 ∧ 0 < dt a1 a2 b1 b2 c1 c2
theorem cr_ml (a1 a2 b1 b2 c1 c2 : Int) : (a1 - b1) * (c2 - b2) - (a2 - b2) * (c1 - b1) = - cr a1 a2 b1 b2 c1 c2 := by unfold cr; grind
def eFd (n : Nat) (X Y : Nat → Int32) (k : Nat) : Prop := fld (X (prv n k)).toInt (Y (prv n k)).toInt (X k).toInt (Y k).toInt (X (nxt n k)).toInt (Y (nxt n k)).toInt
def eRt (n : Nat) (X Y : Nat → Int32) (k : Nat) : Prop := dt (X (prv n k)).toInt (Y (prv n k)).toInt (X k).toInt (Y k).toInt (X (nxt n k)).toInt (Y (nxt n k)).toInt = 0
/-- an edge has length, and with those from a number on only what it may have in common -/
def eFr (n : Nat) (X Y : Nat → Int32) (rg : Int32) (i f : Nat) : Prop := ¬ ((X i).toInt = (X (nxt n i)).toInt ∧ (Y i).toInt = (Y (nxt n i)).toInt) ∧ ∀ j, f ≤ j → j < edg n rg → j ≠ i → (nxt n i = j → ¬ eFd n X Y j) ∧ (nxt n i ≠ j → nxt n j = i → ¬ eFd n X Y i) ∧ (nxt n i ≠ j → nxt n j ≠ i → ¬ eMt n X Y i n X Y j)
def ar2 (n : Nat) (X Y : Nat → Int32) : Nat → Int
  | 0 => 0
  | i + 1 => ar2 n X Y i + ((X i).toInt * (Y (nxt n i)).toInt - (X (nxt n i)).toInt * (Y i).toInt)
def ln2 (X Y : Nat → Int32) : Nat → Nat
  | 0 => 0
  | i + 1 => ln2 X Y i + (((X (i + 1)).toInt - (X i).toInt).natAbs + ((Y (i + 1)).toInt - (Y i).toInt).natAbs)
theorem xyB {x y : Int32} (h1 : pl x) (h2 : pl y) : 0 ≤ x.toInt * y.toInt ∧ x.toInt * y.toInt ≤ 1000000 := by
  unfold pl at h1 h2
  exact ⟨Int.mul_nonneg (by omega) (by omega), (mulB (by omega) (by omega) (by omega) (by omega)).2⟩
theorem xyI {x y u v : Int32} (h1 : pl x) (h2 : pl y) (h3 : pl u) (h4 : pl v) : x * y - u * v = iI (x.toInt * y.toInt - u.toInt * v.toInt) := by
  have p := xyB h1 h2; have q := xyB h3 h4
  have e1 : (x * y).toInt = x.toInt * y.toInt := fb_mulI (by omega) (by omega)
  have e2 : (u * v).toInt = u.toInt * v.toInt := fb_mulI (by omega) (by omega)
  refine iI_of ?_
  rw [fb_subI (by rw [e1, e2]; omega) (by rw [e1, e2]; omega), e1, e2]
theorem ar2B {n : Nat} {X Y : Nat → Int32} (hp : pls n X Y) : ∀ i, i ≤ n → -(1000000 * (i : Int)) ≤ ar2 n X Y i ∧ ar2 n X Y i ≤ 1000000 * (i : Int)
  | 0, _ => by simp [ar2]
  | i + 1, h => by
    have ih := ar2B hp i (by omega)
    have hx := nxt_lt (n := n) (i := i) (by omega)
    have p := xyB (hp i (by omega)).1 (hp _ hx).2; have q := xyB (hp _ hx).1 (hp i (by omega)).2
    simp only [ar2]; omega
theorem ln2B {n : Nat} {X Y : Nat → Int32} (hp : pls n X Y) : ∀ i, i < n → ln2 X Y i ≤ 2000 * i
  | 0, _ => by simp [ln2]
  | i + 1, h => by
    have ih := ln2B hp i (by omega)
    have a := hp i (by omega); have b := hp (i + 1) h
    unfold pl at a b
    simp only [ln2]; omega
theorem nxt_prv {n k : Nat} (h : k < n) : nxt n (prv n k) = k := by unfold nxt prv; split <;> (try split) <;> omega
theorem prv_nxt {n k : Nat} (h : k < n) : prv n (nxt n k) = k := by unfold nxt prv; split <;> (try split) <;> omega
/-- a corner that is made smooth: an end stays -/
def smv (e a b c : Int32) : Int32 := if e = 0 then (a + 2 * b + c) / 4 else b
theorem smv_t {p : Prop} {a b c : Int32} (h : p) : b = smv (pI p) a b c := by unfold smv; rw [zp_t h, if_neg (by decide)]
theorem smv_f {p : Prop} {a b c : Int32} (h : ¬ p) : (a + 2 * b + c) / 4 = smv (pI p) a b c := by unfold smv; rw [zp_f h, if_pos rfl]
theorem sPl {S : Nat → Int32} (h0 : pl (S 0)) (h1 : pl (S 1)) (h2 : pl (S 2)) (h3 : pl (S 3)) (h4 : pl (S 4)) (h5 : pl (S 5)) (h6 : pl (S 6)) (h7 : pl (S 7)) : ∀ k, k < 8 → pl (S k) := by
  intro k hk
  rcases (show k = 0 ∨ k = 1 ∨ k = 2 ∨ k = 3 ∨ k = 4 ∨ k = 5 ∨ k = 6 ∨ k = 7 by omega) with rfl | rfl | rfl | rfl | rfl | rfl | rfl | rfl <;> assumption
theorem met_of {S : Nat → Int32} {n m : Nat} {X Y U V : Nat → Int32} {i j : Nat} (s0 : S 0 = X i) (s1 : S 1 = Y i) (s2 : S 2 = X (nxt n i)) (s3 : S 3 = Y (nxt n i)) (s4 : S 4 = U j) (s5 : S 5 = V j) (s6 : S 6 = U (nxt m j)) (s7 : S 7 = V (nxt m j)) : mtC (S 0).toInt (S 1).toInt (S 2).toInt (S 3).toInt (S 4).toInt (S 5).toInt (S 6).toInt (S 7).toInt ↔ eMt n X Y i m U V j := by
  unfold eMt; rw [s0, s1, s2, s3, s4, s5, s6, s7]
theorem on_of {S : Nat → Int32} {n : Nat} {X Y : Nat → Int32} {i : Nat} {x y : Int} (s0 : S 0 = X i) (s1 : S 1 = Y i) (s2 : S 2 = X (nxt n i)) (s3 : S 3 = Y (nxt n i)) : onS (S 0).toInt (S 1).toInt (S 2).toInt (S 3).toInt x y ↔ eOn n X Y i x y := by
  unfold eOn; rw [s0, s1, s2, s3]
theorem eO_le {k : Int} {n : Nat} (h : 1 ≤ n) : eO k n ≤ n := by unfold eO; split <;> (try split) <;> omega
/-- the least and the greatest of a start and some corners -/
def mnI (z : Int) (X : Nat → Int32) : Nat → Int
  | 0 => z
  | i + 1 => min (mnI z X i) (X i).toInt
def mxI (z : Int) (X : Nat → Int32) : Nat → Int
  | 0 => z
  | i + 1 => max (mxI z X i) (X i).toInt
def nr (z : Int) : Prop := -10000 ≤ z ∧ z ≤ 10000
theorem mnB {z : Int} {X : Nat → Int32} {n : Nat} (hz : nr z) (hX : ∀ k, k < n → nr (X k).toInt) : ∀ i, i ≤ n → nr (mnI z X i)
  | 0, _ => hz
  | i + 1, h => by
    have a := mnB hz hX i (by omega); have b := hX i (by omega)
    unfold nr at *; simp only [mnI]; omega
theorem mxB {z : Int} {X : Nat → Int32} {n : Nat} (hz : nr z) (hX : ∀ k, k < n → nr (X k).toInt) : ∀ i, i ≤ n → nr (mxI z X i)
  | 0, _ => hz
  | i + 1, h => by
    have a := mxB hz hX i (by omega); have b := hX i (by omega)
    unfold nr at *; simp only [mxI]; omega
theorem iI_sub {y z : Int} (h1 : -1000000000 ≤ y ∧ y ≤ 1000000000) (h2 : -1000000000 ≤ z ∧ z ≤ 1000000000) : iI y - iI z = iI (y - z) := by
  refine iI_of ?_
  rw [fb_subI (by rw [iI_toInt (by omega), iI_toInt (by omega)]; omega) (by rw [iI_toInt (by omega), iI_toInt (by omega)]; omega), iI_toInt (by omega), iI_toInt (by omega)]
theorem sqB {z : Int} (h : 0 ≤ z ∧ z ≤ 20000) : 0 ≤ z * z ∧ z * z ≤ 400000000 := by
  have a := Int.mul_nonneg h.1 h.1
  have b := Int.mul_le_mul h.2 h.2 h.1 (by omega)
  omega
theorem iI_sq {z : Int} (h : 0 ≤ z ∧ z ≤ 20000) : iI z * iI z = iI (z * z) := by
  have q := sqB h
  refine iI_of ?_
  rw [fb_mulI (by rw [iI_toInt (by omega)]; omega) (by rw [iI_toInt (by omega)]; omega), iI_toInt (by omega)]
/-- how far two spans are apart -/
def gp (l r l2 r2 : Int) : Int := max 0 (max (l2 - r) (l - r2))
theorem gpB {l r l2 r2 : Int} (h1 : nr l) (h2 : nr r) (h3 : nr l2) (h4 : nr r2) : 0 ≤ gp l r l2 r2 ∧ gp l r l2 r2 ≤ 20000 := by unfold nr at *; unfold gp; omega
theorem sq_pos {y z : Int} (h1 : 0 ≤ y ∧ y ≤ 20000) (h2 : 0 ≤ z ∧ z ≤ 20000) : 0 < y * y + z * z ↔ 0 < y ∨ 0 < z := by
  have a := sqB h1; have b := sqB h2
  constructor
  · intro h
    rcases Int.lt_or_le 0 y with p | p
    · exact Or.inl p
    · rcases Int.lt_or_le 0 z with q | q
      · exact Or.inr q
      · have e1 : y = 0 := by omega
        have e2 : z = 0 := by omega
        rw [e1, e2] at h; omega
  · rintro (h | h)
    · have := Int.mul_pos h h; omega
    · have := Int.mul_pos h h; omega
theorem mlL {x y u v : Int32} (h1 : pl x) (h2 : pl y) (h3 : pl u) (h4 : pl v) : (x - y).toInt64 * (u - v).toInt64 = jI ((x.toInt - y.toInt) * (u.toInt - v.toInt)) := by
  have b := mlB h1 h2 h3 h4
  unfold pl at h1 h2 h3 h4
  have e1 : ((x - y).toInt64).toInt = x.toInt - y.toInt := by rw [i64, fb_subI (by omega) (by omega)]
  have e2 : ((u - v).toInt64).toInt = u.toInt - v.toInt := by rw [i64, fb_subI (by omega) (by omega)]
  refine jI_of ?_
  rw [fb_mulL (by rw [e1, e2]; omega) (by rw [e1, e2]; omega), e1, e2]
theorem jI_add {y z : Int} (h1 : -1000000000000000 ≤ y ∧ y ≤ 1000000000000000) (h2 : -1000000000000000 ≤ z ∧ z ≤ 1000000000000000) : jI y + jI z = jI (y + z) := by
  refine jI_of ?_
  rw [fb_addL (by rw [jI_toInt (by omega), jI_toInt (by omega)]; omega) (by rw [jI_toInt (by omega), jI_toInt (by omega)]; omega), jI_toInt (by omega), jI_toInt (by omega)]
theorem dt_neg (a1 a2 b1 b2 c1 c2 : Int) : (b1 - a1) * (c1 - b1) + (b2 - a2) * (c2 - b2) = - dt a1 a2 b1 b2 c1 c2 := by unfold dt; grind
def mnc (k : Int) : Nat := if 5 ≤ k then 3 else 2
theorem mnc_s (k : Int) : (5 ≤ k → mnc k = 3) ∧ (¬ 5 ≤ k → mnc k = 2) := ⟨fun h => if_pos h, fun h => if_neg h⟩
/-- edge i and edge j from i on lie one on the other, as the reference asks -/
def mFl (n : Nat) (X Y : Nat → Int32) (i k : Nat) : Prop := fld (X i).toInt (Y i).toInt (X (nxt n i)).toInt (Y (nxt n i)).toInt (X (nxt n k)).toInt (Y (nxt n k)).toInt
def mCn (kd : Int) (n : Nat) (X Y : Nat → Int32) (i k : Nat) : Prop := (k = i + 1 → ¬ mFl n X Y i k) ∧ (k ≠ i + 1 → (5 ≤ kd ∧ i = 0 ∧ k = eO kd n - 1) → ¬ mFl n X Y k i) ∧ (k ≠ i + 1 → ¬ (5 ≤ kd ∧ i = 0 ∧ k = eO kd n - 1) → ¬ eMt n X Y i n X Y k)
def mSm (kd : Int) (n : Nat) (X Y : Nat → Int32) : Prop := (kd = 0 → n = 1) ∧ (¬ kd = 0 → mnc kd ≤ n ∧ (∀ i, i < eO kd n → ¬ ((X i).toInt = (X (nxt n i)).toInt ∧ (Y i).toInt = (Y (nxt n i)).toInt)) ∧ (∀ i k, i < k → k < eO kd n → mCn kd n X Y i k) ∧ (¬ kd = 6 ∨ ∀ k, k < n → eRt n X Y k))
end
section
abbrev oc0 (a : Nat) (v0 : Int32) (v1 : Int32) (v2 : Int32) (v3 : Int32) : Nat × va_E := (a, .inr (0, [.int v0, .int v1, .int v2, .int v3]))
abbrev oc1 (a : Nat) (v0 : Int32) (v1 : Int32) (v2 : Int32) (v3 : Int32) (v4 : Int32) (v5 : Value) (v6 : Value) (v7 : Value) : Nat × va_E := (a, .inr (1, [.int v0, .int v1, .int v2, .int v3, .int v4, v5, v6, v7]))
abbrev oc2 (a : Nat) (v0 : Int64) (v1 : Int64) : Nat × va_E := (a, .inr (2, [.long v0, .long v1]))
abbrev oc3 (a : Nat) (v0 : Value) (v1 : Value) (v2 : Value) (v3 : Value) (v4 : Value) (v5 : Value) : Nat × va_E := (a, .inr (3, [v0, v1, v2, v3, v4, v5]))
abbrev oc4 (a : Nat) (v0 : Int32) (v1 : Int32) (v2 : Value) (v3 : Int32) (v4 : Int32) (v5 : Int32) : Nat × va_E := (a, .inr (4, [.int v0, .int v1, v2, .int v3, .int v4, .int v5]))
abbrev oc5 (a : Nat) (v0 : Value) (v1 : Value) (v2 : Value) (v3 : Value) (v4 : Value) (v5 : Int32) : Nat × va_E := (a, .inr (5, [v0, v1, v2, v3, v4, .int v5]))
abbrev oc6 (a : Nat) (v0 : Value) (v1 : Value) (v2 : Int32) (v3 : Int32) : Nat × va_E := (a, .inr (6, [v0, v1, .int v2, .int v3]))
abbrev oc7 (a : Nat) (v0 : Value) (v1 : Int32) : Nat × va_E := (a, .inr (7, [v0, .int v1]))
abbrev oc8 (a : Nat) (v0 : Value) (v1 : Value) (v2 : Value) (v3 : Value) (v4 : Value) (v5 : Value) (v6 : Value) (v7 : Value) (v8 : Value) (v9 : Int32) (v10 : Int32) (v11 : Int32) (v12 : Int32) : Nat × va_E := (a, .inr (8, [v0, v1, v2, v3, v4, v5, v6, v7, v8, .int v9, .int v10, .int v11, .int v12]))
abbrev om (k : Nat) (a : Nat → Nat) (I : Nat → Int32) (J : Nat → Int64) : Nat × va_E := (k, .inr (9, mF a I J))
abbrev oc10 (a : Nat) (v0 : Int32) (v1 : Value) (v2 : Int32) : Nat × va_E := (a, .inr (10, [.int v0, v1, .int v2]))
abbrev oc11 (a : Nat) (v0 : Int32) (v1 : Int32) (v2 : Int32) (v3 : Value) (v4 : Value) : Nat × va_E := (a, .inr (11, [.int v0, .int v1, .int v2, v3, v4]))
abbrev oc12 (a : Nat) (v0 : Value) (v1 : Value) (v2 : Value) (v3 : Value) : Nat × va_E := (a, .inr (12, [v0, v1, v2, v3]))
abbrev oa (a : Nat) (c : ClassId) (n : Nat) (f : Nat → Int32) : Nat × va_E := (a, .inl (c, n, .inl f))
abbrev oq (a : Nat) (c : ClassId) (n : Nat) (f : Nat → Option Nat) : Nat × va_E := (a, .inl (c, n, .inr (.inr (.inr (.inr f)))))
end
section
/-! a method's contract, its world told once; and its entry in one row -/
abbrev zM (l : Launch) (y : MethodName) (cc : ByteArray) (maxL : Nat) (ret : Option FieldType) (R : Room) (av : List Value) (D : va_G) (tys : List (ClassId × FieldType)) (w : va_W) (sz : Nat) (v : Option Value) (B : (Nat → Prop) → State → Prop) (mc ms : Nat) : Prop := Met l y (.code y cc maxL ret :: ws0) R (va_Pc av (zPre D classes tys w sz zXN)) (zQ v (B (va_A w sz)) (va_A w sz)) mc ms (va_A w sz)
theorem zIn {l : Launch} {y : MethodName} {cc : ByteArray} {maxL : Nat} {ret : Option FieldType} {R : Room} {av : List Value} {D : va_G} {tys : List (ClassId × FieldType)} {w : va_W} {sz : Nat} {v : Option Value} {B : (Nat → Prop) → State → Prop} {mc ms : Nat} {own : String} {loc : List (Nat × Value)} (hy : plainName y.cls = true) (ho : y.cls = own) (hlen : Nat.ble (lg_sl av).length maxL = true) (hloc : lv_args 0 av = loc)
    (k : ∀ (p : Program) (e : Env) (s : State) (m : MethodId) (below : List Frame) (meth : Method) (c : Code), p.tables.exec = Jvm.exec → c.code = cc → meth.sig.returnType = ret → (∀ w9 ∈ ws0, w9.before av.toArray s = true) → s.vm.findClass own = some m.cls → meth.locks = false → c.maxLocals = maxL → meth.name = y.name → ∀ (A : Nat → Prop), (∀ q : Nat, s.heap.size ≤ q → A q) → va_S A s.heap s.heap [] → va_P D classes w s.heap → va_D A w → va_K D classes tys s → zXN s → ∀ (Q9 : State → Prop), Q9 = MQ below (zQ v (B A) A) av.toArray s mc ms A → ∀ (ls : Array Slot), lv_has ls maxL loc → W p l e R s m av.toArray below meth c s.heap [] 0 0 Q9 (F0 m 0 ls [])) : zM l y cc maxL ret R av D tys w sz v B mc ms := by
  refine Met.ofW (cc := cc) (maxL := maxL) (ret := ret) hy rfl ?_
  intro p e s m args below meth c s₁ Bd hml hv
  obtain ⟨rfl, hsz, hP, hK, hD0, hXN⟩ := hv
  have hts0 := atoms_spec (ws := .code y cc maxL ret :: ws0) Bd.pre
  subst hsz
  have hl := lv_entry av (n := maxL) (Nat.le_of_ble_eq_true hlen)
  rw [hloc] at hl
  rw [lg_entry_eq]
  exact k p e s m below meth c Bd.exec Bd.bytes Bd.returns (fun w9 h => hts0 w9 (List.mem_cons_of_mem _ h)) (by rw [← ho]; exact findClass_of_methodNamed Bd.named) Bd.notSynchronized hml (name_of_methodNamed Bd.named Bd.method).1 (va_A w s.heap.size) (fun q h => Or.inr h) va_S.rf hP hD0.self hK hXN _ rfl _ hl
theorem zre {D : va_G} {cl : List vw_C} {A : Nat → Prop} {W1 W2 : va_W} {H : Heap} (hP : va_P D cl W1 H) (hD : va_D A W1) (h : W1 = W2) : va_P D cl W2 H ∧ va_D A W2 := by
  subst h
  exact ⟨hP, hD⟩
end
section
theorem csV_0 {R : Room} {s : State} {args : Array Value} {rm : Room} {mc ms : Nat} (hts : ∀ w ∈ ws0, w.before args s = true) (hrc : rm.cells = mc) (hrs : rm.slots = ms) (hR : rm.frames + 1 ≤ R.frames ∧ 8 + (1 + 11) + rm.locals ≤ R.locals) : CallW R s args "ScaleShop$Row" RX7 47 yX7_edges cX7_edges 1 (some .int) (.code yX7_edges cX7_edges 1 (some .int) :: ws0) rm mc ms 0 := cwV 0 hts (zz_gV mw_528 mw_529 mw_530 mw_102 mc_yX7_edges) rfl hrc hrs (by decide +kernel) hR
theorem csV_1 {R : Room} {s : State} {args : Array Value} {rm : Room} {mc ms : Nat} (hts : ∀ w ∈ ws0, w.before args s = true) (hrc : rm.cells = mc) (hrs : rm.slots = ms) (hR : rm.frames + 1 ≤ R.frames ∧ 8 + (5 + 11) + rm.locals ≤ R.locals) : CallW R s args "ScaleShop$Row" RX7 51 yX7_turn cX7_turn 5 (some .int) (.code yX7_turn cX7_turn 5 (some .int) :: ws0) rm mc ms 3 := cwV 3 hts (zz_gV mw_584 mw_585 mw_586 mw_102 mc_yX7_turn) rfl hrc hrs (by decide +kernel) hR
theorem csV_2 {R : Room} {s : State} {args : Array Value} {rm : Room} {mc ms : Nat} (hts : ∀ w ∈ ws0, w.before args s = true) (hrc : rm.cells = mc) (hrs : rm.slots = ms) (hR : rm.frames + 1 ≤ R.frames ∧ 8 + (1 + 11) + rm.locals ≤ R.locals) : CallW R s args "ScaleShop$Row" RX7 55 yX7_parts cX7_parts 1 (some .int) (.code yX7_parts cX7_parts 1 (some .int) :: ws0) rm mc ms 0 := cwV 0 hts (zz_gV mw_622 mw_623 mw_624 mw_102 mc_yX7_parts) rfl hrc hrs (by decide +kernel) hR
theorem csV_3 {R : Room} {s : State} {args : Array Value} {rm : Room} {mc ms : Nat} (hts : ∀ w ∈ ws0, w.before args s = true) (hrc : rm.cells = mc) (hrs : rm.slots = ms) (hR : rm.frames + 1 ≤ R.frames ∧ 8 + (5 + 11) + rm.locals ≤ R.locals) : CallW R s args "ScaleShop$Row" RX7 58 yX7_isOn cX7_isOn 5 (some .boolean) (.code yX7_isOn cX7_isOn 5 (some .boolean) :: ws0) rm mc ms 3 := cwV 3 hts (zz_gV mw_626 mw_627 mw_628 mw_102 mc_yX7_isOn) rfl hrc hrs (by decide +kernel) hR
theorem csV_4 {R : Room} {s : State} {args : Array Value} {rm : Room} {mc ms : Nat} (hts : ∀ w ∈ ws0, w.before args s = true) (hrc : rm.cells = mc) (hrs : rm.slots = ms) (hR : rm.frames + 1 ≤ R.frames ∧ 8 + (18 + 11) + rm.locals ≤ R.locals) : CallW R s args "ScaleShop$Row" RX7 65 yX7_partsMeet cX7_partsMeet 18 (some .boolean) (.code yX7_partsMeet cX7_partsMeet 18 (some .boolean) :: ws0) rm mc ms 3 := cwV 3 hts (zz_gV mw_548 mw_549 mw_550 mw_102 mc_yX7_partsMeet) rfl hrc hrs (by decide +kernel) hR
theorem csV_5 {R : Room} {s : State} {args : Array Value} {rm : Room} {mc ms : Nat} (hts : ∀ w ∈ ws0, w.before args s = true) (hrc : rm.cells = mc) (hrs : rm.slots = ms) (hR : rm.frames + 1 ≤ R.frames ∧ 8 + (2 + 11) + rm.locals ≤ R.locals) : CallW R s args "ScaleShop$Row" RX7 85 yX7_previous cX7_previous 2 (some .int) (.code yX7_previous cX7_previous 2 (some .int) :: ws0) rm mc ms 1 := cwV 1 hts (zz_gV mw_556 mw_557 mw_558 mw_102 mc_yX7_previous) rfl hrc hrs (by decide +kernel) hR
theorem csV_6 {R : Room} {s : State} {args : Array Value} {rm : Room} {mc ms : Nat} (hts : ∀ w ∈ ws0, w.before args s = true) (hrc : rm.cells = mc) (hrs : rm.slots = ms) (hR : rm.frames + 1 ≤ R.frames ∧ 8 + (2 + 11) + rm.locals ≤ R.locals) : CallW R s args "ScaleShop$Row" RX7 77 yX7_next cX7_next 2 (some .int) (.code yX7_next cX7_next 2 (some .int) :: ws0) rm mc ms 1 := cwV 1 hts (zz_gV mw_536 mw_537 mw_538 mw_102 mc_yX7_next) rfl hrc hrs (by decide +kernel) hR
theorem csV_7 {R : Room} {s : State} {args : Array Value} {rm : Room} {mc ms : Nat} (hts : ∀ w ∈ ws0, w.before args s = true) (hrc : rm.cells = mc) (hrs : rm.slots = ms) (hR : rm.frames + 1 ≤ R.frames ∧ 8 + (4 + 11) + rm.locals ≤ R.locals) : CallW R s args "ScaleShop$Row" RX7 62 yX7_isCorner cX7_isCorner 4 (some .boolean) (.code yX7_isCorner cX7_isCorner 4 (some .boolean) :: ws0) rm mc ms 3 := cwV 3 hts (zz_gV mw_540 mw_541 mw_542 mw_102 mc_yX7_isCorner) rfl hrc hrs (by decide +kernel) hR
theorem csV_8 {R : Room} {s : State} {args : Array Value} {rm : Room} {mc ms : Nat} (hts : ∀ w ∈ ws0, w.before args s = true) (hrc : rm.cells = mc) (hrs : rm.slots = ms) (hR : rm.frames + 1 ≤ R.frames ∧ 8 + (8 + 11) + rm.locals ≤ R.locals) : CallW R s args "ScaleShop$Row" RX7 81 yX7_foldsBack cX7_foldsBack 8 (some .boolean) (.code yX7_foldsBack cX7_foldsBack 8 (some .boolean) :: ws0) rm mc ms 1 := cwV 1 hts (zz_gV mw_544 mw_546 mw_5 mw_102 mc_yX7_foldsBack) rfl hrc hrs (by decide +kernel) hR
theorem csV_9 {R : Room} {s : State} {args : Array Value} {rm : Room} {mc ms : Nat} (hts : ∀ w ∈ ws0, w.before args s = true) (hrc : rm.cells = mc) (hrs : rm.slots = ms) (hR : rm.frames + 1 ≤ R.frames ∧ 8 + (4 + 11) + rm.locals ≤ R.locals) : CallW R s args "ScaleShop$Row" RX7 73 yX7_hasRightAngles cX7_hasRightAngles 4 (some .boolean) (.code yX7_hasRightAngles cX7_hasRightAngles 4 (some .boolean) :: ws0) rm mc ms 0 := cwV 0 hts (zz_gV mw_552 mw_554 mw_6 mw_102 mc_yX7_hasRightAngles) rfl hrc hrs (by decide +kernel) hR
theorem csV_10 {R : Room} {s : State} {args : Array Value} {rm : Room} {mc ms : Nat} (hts : ∀ w ∈ ws0, w.before args s = true) (hrc : rm.cells = mc) (hrs : rm.slots = ms) (hR : rm.frames + 1 ≤ R.frames ∧ 8 + (5 + 11) + rm.locals ≤ R.locals) : CallW R s args "ScaleShop$Row" RX7 69 yX7_isEdgeFree cX7_isEdgeFree 5 (some .boolean) (.code yX7_isEdgeFree cX7_isEdgeFree 5 (some .boolean) :: ws0) rm mc ms 2 := cwV 2 hts (zz_gV mw_532 mw_533 mw_534 mw_102 mc_yX7_isEdgeFree) rfl hrc hrs (by decide +kernel) hR
theorem csV_11 {R : Room} {s : State} {args : Array Value} {rm : Room} {mc ms : Nat} (hts : ∀ w ∈ ws0, w.before args s = true) (hrc : rm.cells = mc) (hrs : rm.slots = ms) (hR : rm.frames + 1 ≤ R.frames ∧ 8 + (2 + 11) + rm.locals ≤ R.locals) : CallW R s args "ScaleShop$Row" RX7 32 yX7_clear cX7_clear 2 none (.code yX7_clear cX7_clear 2 none :: ws0) rm mc ms 1 := cwV 1 hts (zz_gV mw_599 mw_600 mw_601 mw_102 mc_yX7_clear) rfl hrc hrs (by decide +kernel) hR
theorem csV_12 {R : Room} {s : State} {args : Array Value} {rm : Room} {mc ms : Nat} (hts : ∀ w ∈ ws0, w.before args s = true) (hrc : rm.cells = mc) (hrs : rm.slots = ms) (hR : rm.frames + 1 ≤ R.frames ∧ 8 + (3 + 11) + rm.locals ≤ R.locals) : CallW R s args "ScaleShop$Row" RX7 36 yX7_put cX7_put 3 none (.code yX7_put cX7_put 3 none :: ws0) rm mc ms 2 := cwV 2 hts (zz_gV mw_603 mw_506 mw_507 mw_102 mc_yX7_put) rfl hrc hrs (by decide +kernel) hR
theorem csV_13 {R : Room} {s : State} {args : Array Value} {rm : Room} {mc ms : Nat} (hts : ∀ w ∈ ws0, w.before args s = true) (hrc : rm.cells = mc) (hrs : rm.slots = ms) (hR : rm.frames + 1 ≤ R.frames ∧ 8 + (2 + 11) + rm.locals ≤ R.locals) : CallW R s args "ScaleShop$Row" RX7 94 yX7_isEnd cX7_isEnd 2 (some .boolean) (.code yX7_isEnd cX7_isEnd 2 (some .boolean) :: ws0) rm mc ms 1 := cwV 1 hts (zz_gV mw_871 mw_577 mw_578 mw_102 mc_yX7_isEnd) rfl hrc hrs (by decide +kernel) hR
theorem csS_14 {R : Room} {s : State} {args : Array Value} {rm : Room} {mc ms : Nat} (hts : ∀ w ∈ ws0, w.before args s = true) (hrc : rm.cells = mc) (hrs : rm.slots = ms) (hR : rm.frames + 1 ≤ R.frames ∧ 8 + (3 + 11) + rm.locals ≤ R.locals) : CallB R s args "ScaleShop" 74 yX10_isWithin cX10_isWithin 3 (some .boolean) (.code yX10_isWithin cX10_isWithin 3 (some .boolean) :: ws0) rm mc ms 3 ∧ (Cond.static yX10_isWithin).before args s = true := va_cwS 3 hts (zz_gS mw_353 mw_354 mw_99 mc_yX10_isWithin) rfl hrc hrs (by decide +kernel) hR
theorem csV_15 {R : Room} {s : State} {args : Array Value} {rm : Room} {mc ms : Nat} (hts : ∀ w ∈ ws0, w.before args s = true) (hrc : rm.cells = mc) (hrs : rm.slots = ms) (hR : rm.frames + 1 ≤ R.frames ∧ 8 + (3 + 11) + rm.locals ≤ R.locals) : CallW R s args "ScaleShop$Box" RX0 42 yX0_take cX0_take 3 none (.code yX0_take cX0_take 3 none :: ws0) rm mc ms 2 := cwV 2 hts (zz_gV mw_664 mw_651 mw_652 mw_104 mc_yX0_take) rfl hrc hrs (by decide +kernel) hR
theorem csV_16 {R : Room} {s : State} {args : Array Value} {rm : Room} {mc ms : Nat} (hts : ∀ w ∈ ws0, w.before args s = true) (hrc : rm.cells = mc) (hrs : rm.slots = ms) (hR : rm.frames + 1 ≤ R.frames ∧ 8 + (3 + 11) + rm.locals ≤ R.locals) : CallW R s args "ScaleShop$Box" RX0 31 yX0_begin cX0_begin 3 none (.code yX0_begin cX0_begin 3 none :: ws0) rm mc ms 2 := cwV 2 hts (zz_gV mw_659 mw_647 mw_648 mw_104 mc_yX0_begin) rfl hrc hrs (by decide +kernel) hR
theorem csV_17 {R : Room} {s : State} {args : Array Value} {rm : Room} {mc ms : Nat} (hts : ∀ w ∈ ws0, w.before args s = true) (hrc : rm.cells = mc) (hrs : rm.slots = ms) (hR : rm.frames + 1 ≤ R.frames ∧ 8 + (3 + 11) + rm.locals ≤ R.locals) : CallW R s args "ScaleShop$Box" RX0 35 yX0_stretch cX0_stretch 3 none (.code yX0_stretch cX0_stretch 3 none :: ws0) rm mc ms 1 := cwV 1 hts (zz_gV mw_660 mw_661 mw_662 mw_104 mc_yX0_stretch) rfl hrc hrs (by decide +kernel) hR
theorem csV_18 {R : Room} {s : State} {args : Array Value} {rm : Room} {mc ms : Nat} (hts : ∀ w ∈ ws0, w.before args s = true) (hrc : rm.cells = mc) (hrs : rm.slots = ms) (hR : rm.frames + 1 ≤ R.frames ∧ 8 + (4 + 11) + rm.locals ≤ R.locals) : CallW R s args "ScaleShop$Box" RX0 45 yX0_squareApart cX0_squareApart 4 (some .int) (.code yX0_squareApart cX0_squareApart 4 (some .int) :: ws0) rm mc ms 1 := cwV 1 hts (zz_gV mw_670 mw_671 mw_672 mw_104 mc_yX0_squareApart) rfl hrc hrs (by decide +kernel) hR
theorem csV_19 {R : Room} {s : State} {args : Array Value} {rm : Room} {mc ms : Nat} (hts : ∀ w ∈ ws0, w.before args s = true) (hrc : rm.cells = mc) (hrs : rm.slots = ms) (hR : rm.frames + 1 ≤ R.frames ∧ 8 + (5 + 11) + rm.locals ≤ R.locals) : CallW R s args "ScaleShop$Fraction" RX3 16 yX3_become cX3_become 5 none (.code yX3_become cX3_become 5 none :: ws0) rm mc ms 2 := cwV 2 hts (zz_gV mw_930 mw_931 mw_932 mw_106 mc_yX3_become) rfl hrc hrs (by decide +kernel) hR
theorem csV_20 {R : Room} {s : State} {args : Array Value} {rm : Room} {mc ms : Nat} (hts : ∀ w ∈ ws0, w.before args s = true) (hrc : rm.cells = mc) (hrs : rm.slots = ms) (hR : rm.frames + 1 ≤ R.frames ∧ 8 + (2 + 11) + rm.locals ≤ R.locals) : CallW R s args "ScaleShop$Fraction" RX7 32 yX7_next cX7_next 2 (some .int) (.code yX7_next cX7_next 2 (some .int) :: ws0) rm mc ms 1 := cwV 1 hts (zz_gV mw_947 mw_537 mw_538 mw_102 mc_yX7_next) rfl hrc hrs (by decide +kernel) hR
theorem csV_21 {R : Room} {s : State} {args : Array Value} {rm : Room} {mc ms : Nat} (hts : ∀ w ∈ ws0, w.before args s = true) (hrc : rm.cells = mc) (hrs : rm.slots = ms) (hR : rm.frames + 1 ≤ R.frames ∧ 8 + (5 + 11) + rm.locals ≤ R.locals) : CallW R s args "ScaleShop$Fraction" RX7 46 yX7_turn cX7_turn 5 (some .int) (.code yX7_turn cX7_turn 5 (some .int) :: ws0) rm mc ms 3 := cwV 3 hts (zz_gV mw_952 mw_585 mw_586 mw_102 mc_yX7_turn) rfl hrc hrs (by decide +kernel) hR
theorem csV_22 {R : Room} {s : State} {args : Array Value} {rm : Room} {mc ms : Nat} (hts : ∀ w ∈ ws0, w.before args s = true) (hrc : rm.cells = mc) (hrs : rm.slots = ms) (hR : rm.frames + 1 ≤ R.frames ∧ 8 + (5 + 11) + rm.locals ≤ R.locals) : CallW R s args "ScaleShop$Fraction" RX3 43 yX3_offer cX3_offer 5 none (.code yX3_offer cX3_offer 5 none :: ws0) rm mc ms 2 := cwV 2 hts (zz_gV mw_948 mw_949 mw_950 mw_106 mc_yX3_offer) rfl hrc hrs (by decide +kernel) hR
theorem csV_23 {R : Room} {s : State} {args : Array Value} {rm : Room} {mc ms : Nat} (hts : ∀ w ∈ ws0, w.before args s = true) (hrc : rm.cells = mc) (hrs : rm.slots = ms) (hR : rm.frames + 1 ≤ R.frames ∧ 8 + (1 + 11) + rm.locals ≤ R.locals) : CallW R s args "ScaleShop$Fraction" RX7 22 yX7_parts cX7_parts 1 (some .int) (.code yX7_parts cX7_parts 1 (some .int) :: ws0) rm mc ms 0 := cwV 0 hts (zz_gV mw_942 mw_623 mw_624 mw_102 mc_yX7_parts) rfl hrc hrs (by decide +kernel) hR
theorem csV_24 {R : Room} {s : State} {args : Array Value} {rm : Room} {mc ms : Nat} (hts : ∀ w ∈ ws0, w.before args s = true) (hrc : rm.cells = mc) (hrs : rm.slots = ms) (hR : rm.frames + 1 ≤ R.frames ∧ 8 + (14 + 11) + rm.locals ≤ R.locals) : CallW R s args "ScaleShop$Fraction" RX3 28 yX3_offerPart cX3_offerPart 14 none (.code yX3_offerPart cX3_offerPart 14 none :: ws0) rm mc ms 4 := cwV 4 hts (zz_gV mw_943 mw_945 mw_25 mw_106 mc_yX3_offerPart) rfl hrc hrs (by decide +kernel) hR
theorem csV_25 {R : Room} {s : State} {args : Array Value} {rm : Room} {mc ms : Nat} (hts : ∀ w ∈ ws0, w.before args s = true) (hrc : rm.cells = mc) (hrs : rm.slots = ms) (hR : rm.frames + 1 ≤ R.frames ∧ 8 + (6 + 11) + rm.locals ≤ R.locals) : CallW R s args "ScaleShop$Fraction" RX7 50 yX7_touches cX7_touches 6 (some .boolean) (.code yX7_touches cX7_touches 6 (some .boolean) :: ws0) rm mc ms 1 := cwV 1 hts (zz_gV mw_929 mw_680 mw_681 mw_102 mc_yX7_touches) rfl hrc hrs (by decide +kernel) hR
theorem csV_26 {R : Room} {s : State} {args : Array Value} {rm : Room} {mc ms : Nat} (hts : ∀ w ∈ ws0, w.before args s = true) (hrc : rm.cells = mc) (hrs : rm.slots = ms) (hR : rm.frames + 1 ≤ R.frames ∧ 8 + (1 + 11) + rm.locals ≤ R.locals) : CallW R s args "ScaleShop$Fraction" RX3 54 yX3_clear cX3_clear 1 none (.code yX3_clear cX3_clear 1 none :: ws0) rm mc ms 0 := cwV 0 hts (zz_gV mw_934 mw_935 mw_936 mw_106 mc_yX3_clear) rfl hrc hrs (by decide +kernel) hR
theorem csV_27 {R : Room} {s : State} {args : Array Value} {rm : Room} {mc ms : Nat} (hts : ∀ w ∈ ws0, w.before args s = true) (hrc : rm.cells = mc) (hrs : rm.slots = ms) (hR : rm.frames + 1 ≤ R.frames ∧ 8 + (5 + 11) + rm.locals ≤ R.locals) : CallW R s args "ScaleShop$Fraction" RX3 61 yX3_offerFrom cX3_offerFrom 5 none (.code yX3_offerFrom cX3_offerFrom 5 none :: ws0) rm mc ms 3 := cwV 3 hts (zz_gV mw_938 mw_939 mw_940 mw_106 mc_yX3_offerFrom) rfl hrc hrs (by decide +kernel) hR
theorem csV_28 {R : Room} {s : State} {args : Array Value} {rm : Room} {mc ms : Nat} (hts : ∀ w ∈ ws0, w.before args s = true) (hrc : rm.cells = mc) (hrs : rm.slots = ms) (hR : rm.frames + 1 ≤ R.frames ∧ 8 + (3 + 11) + rm.locals ≤ R.locals) : CallW R s args "ScaleShop$Row" RX7 43 yX7_copyFrom cX7_copyFrom 3 none (.code yX7_copyFrom cX7_copyFrom 3 none :: ws0) rm mc ms 1 := cwV 1 hts (zz_gV mw_750 mw_596 mw_597 mw_102 mc_yX7_copyFrom) rfl hrc hrs (by decide +kernel) hR
theorem csV_29 {R : Room} {s : State} {args : Array Value} {rm : Room} {mc ms : Nat} (hts : ∀ w ∈ ws0, w.before args s = true) (hrc : rm.cells = mc) (hrs : rm.slots = ms) (hR : rm.frames + 1 ≤ R.frames ∧ 8 + (2 + 11) + rm.locals ≤ R.locals) : CallW R s args "ScaleShop$Feature" RX5 57 yX5_copy cX5_copy 2 (some (.object "ScaleShop$Look")) (.code yX5_copy cX5_copy 2 (some (.object "ScaleShop$Look")) :: ws0) rm mc ms 0 := cwV 0 hts (zz_gV mw_738 mw_739 mw_740 mw_112 mc_yX5_copy) rfl hrc hrs (by decide +kernel) hR
theorem csV_30 {R : Room} {s : State} {args : Array Value} {rm : Room} {mc ms : Nat} (hts : ∀ w ∈ ws0, w.before args s = true) (hrc : rm.cells = mc) (hrs : rm.slots = ms) (hR : rm.frames + 1 ≤ R.frames ∧ 8 + (1 + 11) + rm.locals ≤ R.locals) : CallW R s args "ScaleShop$Feature" RX2 61 yX2_keepFormer cX2_keepFormer 1 none (.code yX2_keepFormer cX2_keepFormer 1 none :: ws0) rm mc ms 0 := cwV 0 hts (zz_gV mw_734 mw_736 mw_19 mw_111 mc_yX2_keepFormer) rfl hrc hrs (by decide +kernel) hR
theorem csV_31 {R : Room} {s : State} {args : Array Value} {rm : Room} {mc ms : Nat} (hts : ∀ w ∈ ws0, w.before args s = true) (hrc : rm.cells = mc) (hrs : rm.slots = ms) (hR : rm.frames + 1 ≤ R.frames ∧ 8 + (2 + 11) + rm.locals ≤ R.locals) : CallW R s args "ScaleShop$Feature" RX7 70 yX7_copy cX7_copy 2 (some (.object "ScaleShop$Row")) (.code yX7_copy cX7_copy 2 (some (.object "ScaleShop$Row")) :: ws0) rm mc ms 0 := cwV 0 hts (zz_gV mw_744 mw_745 mw_746 mw_102 mc_yX7_copy) rfl hrc hrs (by decide +kernel) hR
theorem csV_32 {R : Room} {s : State} {args : Array Value} {rm : Room} {mc ms : Nat} (hts : ∀ w ∈ ws0, w.before args s = true) (hrc : rm.cells = mc) (hrs : rm.slots = ms) (hR : rm.frames + 1 ≤ R.frames ∧ 8 + (3 + 11) + rm.locals ≤ R.locals) : CallW R s args "ScaleShop$Feature" RX7 87 yX7_put cX7_put 3 none (.code yX7_put cX7_put 3 none :: ws0) rm mc ms 2 := cwV 2 hts (zz_gV mw_751 mw_506 mw_507 mw_102 mc_yX7_put) rfl hrc hrs (by decide +kernel) hR
theorem csV_33 {R : Room} {s : State} {args : Array Value} {rm : Room} {mc ms : Nat} (hts : ∀ w ∈ ws0, w.before args s = true) (hrc : rm.cells = mc) (hrs : rm.slots = ms) (hR : rm.frames + 1 ≤ R.frames ∧ 8 + (3 + 11) + rm.locals ≤ R.locals) : CallW R s args "ScaleShop$Feature" RX7 91 yX7_cut cX7_cut 3 none (.code yX7_cut cX7_cut 3 none :: ws0) rm mc ms 1 := cwV 1 hts (zz_gV mw_752 mw_605 mw_606 mw_102 mc_yX7_cut) rfl hrc hrs (by decide +kernel) hR
theorem csV_34 {R : Room} {s : State} {args : Array Value} {rm : Room} {mc ms : Nat} (hts : ∀ w ∈ ws0, w.before args s = true) (hrc : rm.cells = mc) (hrs : rm.slots = ms) (hR : rm.frames + 1 ≤ R.frames ∧ 8 + (2 + 11) + rm.locals ≤ R.locals) : CallW R s args "ScaleShop$Feature" RX2 73 yX2_reshape cX2_reshape 2 none (.code yX2_reshape cX2_reshape 2 none :: ws0) rm mc ms 1 := cwV 1 hts (zz_gV mw_730 mw_731 mw_732 mw_111 mc_yX2_reshape) rfl hrc hrs (by decide +kernel) hR
theorem csV_35 {R : Room} {s : State} {args : Array Value} {rm : Room} {mc ms : Nat} (hts : ∀ w ∈ ws0, w.before args s = true) (hrc : rm.cells = mc) (hrs : rm.slots = ms) (hR : rm.frames + 1 ≤ R.frames ∧ 8 + (1 + 11) + rm.locals ≤ R.locals) : CallW R s args "ScaleShop$Sheet" RX8 21 yX8_isFull cX8_isFull 1 (some .boolean) (.code yX8_isFull cX8_isFull 1 (some .boolean) :: ws0) rm mc ms 0 := cwV 0 hts (zz_gV mw_493 mw_361 mw_362 mw_100 mc_yX8_isFull) rfl hrc hrs (by decide +kernel) hR
theorem csV_36 {R : Room} {s : State} {args : Array Value} {rm : Room} {mc ms : Nat} (hts : ∀ w ∈ ws0, w.before args s = true) (hrc : rm.cells = mc) (hrs : rm.slots = ms) (hR : rm.frames + 1 ≤ R.frames ∧ 8 + (2 + 11) + rm.locals ≤ R.locals) : CallW R s args "ScaleShop$Sheet" RX8 31 yX8_find cX8_find 2 (some (.object "ScaleShop$Feature")) (.code yX8_find cX8_find 2 (some (.object "ScaleShop$Feature")) :: ws0) rm mc ms 1 := cwV 1 hts (zz_gV mw_616 mw_499 mw_500 mw_100 mc_yX8_find) rfl hrc hrs (by decide +kernel) hR
theorem csV_37 {R : Room} {s : State} {args : Array Value} {rm : Room} {mc ms : Nat} (hts : ∀ w ∈ ws0, w.before args s = true) (hrc : rm.cells = mc) (hrs : rm.slots = ms) (hR : rm.frames + 1 ≤ R.frames ∧ 8 + (3 + 11) + rm.locals ≤ R.locals) : CallW R s args "ScaleShop$Sheet" RX8 51 yX8_rowThere cX8_rowThere 3 (some (.object "ScaleShop$Row")) (.code yX8_rowThere cX8_rowThere 3 (some (.object "ScaleShop$Row")) :: ws0) rm mc ms 1 := cwV 1 hts (zz_gV mw_987 mw_613 mw_614 mw_100 mc_yX8_rowThere) rfl hrc hrs (by decide +kernel) hR
theorem csV_38 {R : Room} {s : State} {args : Array Value} {rm : Room} {mc ms : Nat} (hts : ∀ w ∈ ws0, w.before args s = true) (hrc : rm.cells = mc) (hrs : rm.slots = ms) (hR : rm.frames + 1 ≤ R.frames ∧ 8 + (7 + 11) + rm.locals ≤ R.locals) : CallW R s args "ScaleShop$Law" RX7 174 yX7_where cX7_where 7 (some .int) (.code yX7_where cX7_where 7 (some .int) :: ws0) rm mc ms 2 := cwV 2 hts (zz_gV mw_687 mw_688 mw_689 mw_102 mc_yX7_where) rfl hrc hrs (by decide +kernel) hR
theorem csV_39 {R : Room} {s : State} {args : Array Value} {rm : Room} {mc ms : Nat} (hts : ∀ w ∈ ws0, w.before args s = true) (hrc : rm.cells = mc) (hrs : rm.slots = ms) (hR : rm.frames + 1 ≤ R.frames ∧ 8 + (5 + 11) + rm.locals ≤ R.locals) : CallW R s args "ScaleShop$Law" RX7 199 yX7_turn cX7_turn 5 (some .int) (.code yX7_turn cX7_turn 5 (some .int) :: ws0) rm mc ms 3 := cwV 3 hts (zz_gV mw_707 mw_585 mw_586 mw_102 mc_yX7_turn) rfl hrc hrs (by decide +kernel) hR
theorem csV_40 {R : Room} {s : State} {args : Array Value} {rm : Room} {mc ms : Nat} (hts : ∀ w ∈ ws0, w.before args s = true) (hrc : rm.cells = mc) (hrs : rm.slots = ms) (hR : rm.frames + 1 ≤ R.frames ∧ 8 + (2 + 11) + rm.locals ≤ R.locals) : CallW R s args "ScaleShop$Law" RX7 177 yX7_clear cX7_clear 2 none (.code yX7_clear cX7_clear 2 none :: ws0) rm mc ms 1 := cwV 1 hts (zz_gV mw_698 mw_600 mw_601 mw_102 mc_yX7_clear) rfl hrc hrs (by decide +kernel) hR
theorem csV_41 {R : Room} {s : State} {args : Array Value} {rm : Room} {mc ms : Nat} (hts : ∀ w ∈ ws0, w.before args s = true) (hrc : rm.cells = mc) (hrs : rm.slots = ms) (hR : rm.frames + 1 ≤ R.frames ∧ 8 + (3 + 11) + rm.locals ≤ R.locals) : CallW R s args "ScaleShop$Law" RX7 181 yX7_put cX7_put 3 none (.code yX7_put cX7_put 3 none :: ws0) rm mc ms 2 := cwV 2 hts (zz_gV mw_699 mw_506 mw_507 mw_102 mc_yX7_put) rfl hrc hrs (by decide +kernel) hR
theorem csV_42 {R : Room} {s : State} {args : Array Value} {rm : Room} {mc ms : Nat} (hts : ∀ w ∈ ws0, w.before args s = true) (hrc : rm.cells = mc) (hrs : rm.slots = ms) (hR : rm.frames + 1 ≤ R.frames ∧ 8 + (1 + 11) + rm.locals ≤ R.locals) : CallW R s args "ScaleShop$Law" RX7 184 yX7_parts cX7_parts 1 (some .int) (.code yX7_parts cX7_parts 1 (some .int) :: ws0) rm mc ms 0 := cwV 0 hts (zz_gV mw_700 mw_623 mw_624 mw_102 mc_yX7_parts) rfl hrc hrs (by decide +kernel) hR
theorem csV_43 {R : Room} {s : State} {args : Array Value} {rm : Room} {mc ms : Nat} (hts : ∀ w ∈ ws0, w.before args s = true) (hrc : rm.cells = mc) (hrs : rm.slots = ms) (hR : rm.frames + 1 ≤ R.frames ∧ 8 + (18 + 11) + rm.locals ≤ R.locals) : CallW R s args "ScaleShop$Law" RX7 188 yX7_partsMeet cX7_partsMeet 18 (some .boolean) (.code yX7_partsMeet cX7_partsMeet 18 (some .boolean) :: ws0) rm mc ms 3 := cwV 3 hts (zz_gV mw_701 mw_549 mw_550 mw_102 mc_yX7_partsMeet) rfl hrc hrs (by decide +kernel) hR
theorem csV_44 {R : Room} {s : State} {args : Array Value} {rm : Room} {mc ms : Nat} (hts : ∀ w ∈ ws0, w.before args s = true) (hrc : rm.cells = mc) (hrs : rm.slots = ms) (hR : rm.frames + 1 ≤ R.frames ∧ 8 + (2 + 11) + rm.locals ≤ R.locals) : CallW R s args "ScaleShop$Law" RX7 148 yX7_next cX7_next 2 (some .int) (.code yX7_next cX7_next 2 (some .int) :: ws0) rm mc ms 1 := cwV 1 hts (zz_gV mw_654 mw_537 mw_538 mw_102 mc_yX7_next) rfl hrc hrs (by decide +kernel) hR
theorem csV_45 {R : Room} {s : State} {args : Array Value} {rm : Room} {mc ms : Nat} (hts : ∀ w ∈ ws0, w.before args s = true) (hrc : rm.cells = mc) (hrs : rm.slots = ms) (hR : rm.frames + 1 ≤ R.frames ∧ 8 + (5 + 11) + rm.locals ≤ R.locals) : CallW R s args "ScaleShop$Law" RX7 192 yX7_isOn cX7_isOn 5 (some .boolean) (.code yX7_isOn cX7_isOn 5 (some .boolean) :: ws0) rm mc ms 3 := cwV 3 hts (zz_gV mw_702 mw_627 mw_628 mw_102 mc_yX7_isOn) rfl hrc hrs (by decide +kernel) hR
theorem csV_46 {R : Room} {s : State} {args : Array Value} {rm : Room} {mc ms : Nat} (hts : ∀ w ∈ ws0, w.before args s = true) (hrc : rm.cells = mc) (hrs : rm.slots = ms) (hR : rm.frames + 1 ≤ R.frames ∧ 8 + (4 + 11) + rm.locals ≤ R.locals) : CallW R s args "ScaleShop$Law" RX4 196 yX4_leadsTo cX4_leadsTo 4 (some .boolean) (.code yX4_leadsTo cX4_leadsTo 4 (some .boolean) :: ws0) rm mc ms 2 := cwV 2 hts (zz_gV mw_703 mw_705 mw_14 mw_101 mc_yX4_leadsTo) rfl hrc hrs (by decide +kernel) hR
theorem csV_47 {R : Room} {s : State} {args : Array Value} {rm : Room} {mc ms : Nat} (hts : ∀ w ∈ ws0, w.before args s = true) (hrc : rm.cells = mc) (hrs : rm.slots = ms) (hR : rm.frames + 1 ≤ R.frames ∧ 8 + (4 + 11) + rm.locals ≤ R.locals) : CallW R s args "ScaleShop$Law" RX7 214 yX7_isCorner cX7_isCorner 4 (some .boolean) (.code yX7_isCorner cX7_isCorner 4 (some .boolean) :: ws0) rm mc ms 3 := cwV 3 hts (zz_gV mw_713 mw_541 mw_542 mw_102 mc_yX7_isCorner) rfl hrc hrs (by decide +kernel) hR
theorem csV_48 {R : Room} {s : State} {args : Array Value} {rm : Room} {mc ms : Nat} (hts : ∀ w ∈ ws0, w.before args s = true) (hrc : rm.cells = mc) (hrs : rm.slots = ms) (hR : rm.frames + 1 ≤ R.frames ∧ 8 + (2 + 11) + rm.locals ≤ R.locals) : CallW R s args "ScaleShop$Law" RX7 114 yX7_previous cX7_previous 2 (some .int) (.code yX7_previous cX7_previous 2 (some .int) :: ws0) rm mc ms 1 := cwV 1 hts (zz_gV mw_639 mw_557 mw_558 mw_102 mc_yX7_previous) rfl hrc hrs (by decide +kernel) hR
theorem csV_49 {R : Room} {s : State} {args : Array Value} {rm : Room} {mc ms : Nat} (hts : ∀ w ∈ ws0, w.before args s = true) (hrc : rm.cells = mc) (hrs : rm.slots = ms) (hR : rm.frames + 1 ≤ R.frames ∧ 8 + (7 + 11) + rm.locals ≤ R.locals) : CallW R s args "ScaleShop$Law" RX4 203 yX4_setTriangle cX4_setTriangle 7 none (.code yX4_setTriangle cX4_setTriangle 7 none :: ws0) rm mc ms 6 := cwV 6 hts (zz_gV mw_714 mw_716 mw_16 mw_101 mc_yX4_setTriangle) rfl hrc hrs (by decide +kernel) hR
theorem csV_50 {R : Room} {s : State} {args : Array Value} {rm : Room} {mc ms : Nat} (hts : ∀ w ∈ ws0, w.before args s = true) (hrc : rm.cells = mc) (hrs : rm.slots = ms) (hR : rm.frames + 1 ≤ R.frames ∧ 8 + (10 + 11) + rm.locals ≤ R.locals) : CallW R s args "ScaleShop$Law" RX4 207 yX4_holdsCorner cX4_holdsCorner 10 (some .boolean) (.code yX4_holdsCorner cX4_holdsCorner 10 (some .boolean) :: ws0) rm mc ms 5 := cwV 5 hts (zz_gV mw_718 mw_720 mw_17 mw_101 mc_yX4_holdsCorner) rfl hrc hrs (by decide +kernel) hR
theorem csV_51 {R : Room} {s : State} {args : Array Value} {rm : Room} {mc ms : Nat} (hts : ∀ w ∈ ws0, w.before args s = true) (hrc : rm.cells = mc) (hrs : rm.slots = ms) (hR : rm.frames + 1 ≤ R.frames ∧ 8 + (1 + 11) + rm.locals ≤ R.locals) : CallW R s args "ScaleShop$Law" RX7 211 yX7_edges cX7_edges 1 (some .int) (.code yX7_edges cX7_edges 1 (some .int) :: ws0) rm mc ms 0 := cwV 0 hts (zz_gV mw_712 mw_529 mw_530 mw_102 mc_yX7_edges) rfl hrc hrs (by decide +kernel) hR
theorem csV_52 {R : Room} {s : State} {args : Array Value} {rm : Room} {mc ms : Nat} (hts : ∀ w ∈ ws0, w.before args s = true) (hrc : rm.cells = mc) (hrs : rm.slots = ms) (hR : rm.frames + 1 ≤ R.frames ∧ 8 + (2 + 11) + rm.locals ≤ R.locals) : CallW R s args "ScaleShop$Law" RX0 130 yX0_cover cX0_cover 2 none (.code yX0_cover cX0_cover 2 none :: ws0) rm mc ms 1 := cwV 1 hts (zz_gV mw_655 mw_656 mw_657 mw_104 mc_yX0_cover) rfl hrc hrs (by decide +kernel) hR
theorem csV_53 {R : Room} {s : State} {args : Array Value} {rm : Room} {mc ms : Nat} (hts : ∀ w ∈ ws0, w.before args s = true) (hrc : rm.cells = mc) (hrs : rm.slots = ms) (hR : rm.frames + 1 ≤ R.frames ∧ 8 + (3 + 11) + rm.locals ≤ R.locals) : CallW R s args "ScaleShop$Law" RX0 151 yX0_stretch cX0_stretch 3 none (.code yX0_stretch cX0_stretch 3 none :: ws0) rm mc ms 1 := cwV 1 hts (zz_gV mw_665 mw_661 mw_662 mw_104 mc_yX0_stretch) rfl hrc hrs (by decide +kernel) hR
theorem csV_54 {R : Room} {s : State} {args : Array Value} {rm : Room} {mc ms : Nat} (hts : ∀ w ∈ ws0, w.before args s = true) (hrc : rm.cells = mc) (hrs : rm.slots = ms) (hR : rm.frames + 1 ≤ R.frames ∧ 8 + (3 + 11) + rm.locals ≤ R.locals) : CallW R s args "ScaleShop$Law" RX0 141 yX0_begin cX0_begin 3 none (.code yX0_begin cX0_begin 3 none :: ws0) rm mc ms 2 := cwV 2 hts (zz_gV mw_646 mw_647 mw_648 mw_104 mc_yX0_begin) rfl hrc hrs (by decide +kernel) hR
theorem csV_55 {R : Room} {s : State} {args : Array Value} {rm : Room} {mc ms : Nat} (hts : ∀ w ∈ ws0, w.before args s = true) (hrc : rm.cells = mc) (hrs : rm.slots = ms) (hR : rm.frames + 1 ≤ R.frames ∧ 8 + (3 + 11) + rm.locals ≤ R.locals) : CallW R s args "ScaleShop$Law" RX0 145 yX0_take cX0_take 3 none (.code yX0_take cX0_take 3 none :: ws0) rm mc ms 2 := cwV 2 hts (zz_gV mw_650 mw_651 mw_652 mw_104 mc_yX0_take) rfl hrc hrs (by decide +kernel) hR
theorem csV_56 {R : Room} {s : State} {args : Array Value} {rm : Room} {mc ms : Nat} (hts : ∀ w ∈ ws0, w.before args s = true) (hrc : rm.cells = mc) (hrs : rm.slots = ms) (hR : rm.frames + 1 ≤ R.frames ∧ 8 + (6 + 11) + rm.locals ≤ R.locals) : CallW R s args "ScaleShop$Law" RX7 154 yX7_touches cX7_touches 6 (some .boolean) (.code yX7_touches cX7_touches 6 (some .boolean) :: ws0) rm mc ms 1 := cwV 1 hts (zz_gV mw_679 mw_680 mw_681 mw_102 mc_yX7_touches) rfl hrc hrs (by decide +kernel) hR
theorem csV_57 {R : Room} {s : State} {args : Array Value} {rm : Room} {mc ms : Nat} (hts : ∀ w ∈ ws0, w.before args s = true) (hrc : rm.cells = mc) (hrs : rm.slots = ms) (hR : rm.frames + 1 ≤ R.frames ∧ 8 + (5 + 11) + rm.locals ≤ R.locals) : CallW R s args "ScaleShop$Law" RX4 165 yX4_isWayFree cX4_isWayFree 5 (some .boolean) (.code yX4_isWayFree cX4_isWayFree 5 (some .boolean) :: ws0) rm mc ms 2 := cwV 2 hts (zz_gV mw_694 mw_696 mw_13 mw_101 mc_yX4_isWayFree) rfl hrc hrs (by decide +kernel) hR
theorem csV_58 {R : Room} {s : State} {args : Array Value} {rm : Room} {mc ms : Nat} (hts : ∀ w ∈ ws0, w.before args s = true) (hrc : rm.cells = mc) (hrs : rm.slots = ms) (hR : rm.frames + 1 ≤ R.frames ∧ 8 + (5 + 11) + rm.locals ≤ R.locals) : CallW R s args "ScaleShop$Law" RX4 158 yX4_holdsAsBefore cX4_holdsAsBefore 5 (some .boolean) (.code yX4_holdsAsBefore cX4_holdsAsBefore 5 (some .boolean) :: ws0) rm mc ms 2 := cwV 2 hts (zz_gV mw_683 mw_685 mw_12 mw_101 mc_yX4_holdsAsBefore) rfl hrc hrs (by decide +kernel) hR
theorem csV_59 {R : Room} {s : State} {args : Array Value} {rm : Room} {mc ms : Nat} (hts : ∀ w ∈ ws0, w.before args s = true) (hrc : rm.cells = mc) (hrs : rm.slots = ms) (hR : rm.frames + 1 ≤ R.frames ∧ 8 + (7 + 11) + rm.locals ≤ R.locals) : CallW R s args "ScaleShop$Law" RX4 168 yX4_isSweptByMove cX4_isSweptByMove 7 (some .boolean) (.code yX4_isSweptByMove cX4_isSweptByMove 7 (some .boolean) :: ws0) rm mc ms 2 := cwV 2 hts (zz_gV mw_708 mw_710 mw_15 mw_101 mc_yX4_isSweptByMove) rfl hrc hrs (by decide +kernel) hR
theorem csV_60 {R : Room} {s : State} {args : Array Value} {rm : Room} {mc ms : Nat} (hts : ∀ w ∈ ws0, w.before args s = true) (hrc : rm.cells = mc) (hrs : rm.slots = ms) (hR : rm.frames + 1 ≤ R.frames ∧ 8 + (6 + 11) + rm.locals ≤ R.locals) : CallW R s args "ScaleShop$Law" RX4 171 yX4_isSweptByCut cX4_isSweptByCut 6 (some .boolean) (.code yX4_isSweptByCut cX4_isSweptByCut 6 (some .boolean) :: ws0) rm mc ms 3 := cwV 3 hts (zz_gV mw_722 mw_724 mw_18 mw_101 mc_yX4_isSweptByCut) rfl hrc hrs (by decide +kernel) hR
theorem csS_61 {R : Room} {s : State} {args : Array Value} {rm : Room} {mc ms : Nat} (hts : ∀ w ∈ ws0, w.before args s = true) (hrc : rm.cells = mc) (hrs : rm.slots = ms) (hR : rm.frames + 1 ≤ R.frames ∧ 8 + (2 + 11) + rm.locals ≤ R.locals) : CallB R s args "ScaleShop$Law" 162 yX4_isIn cX4_isIn 2 (some .boolean) (.code yX4_isIn cX4_isIn 2 (some .boolean) :: ws0) rm mc ms 2 ∧ (Cond.static yX4_isIn).before args s = true := va_cwS 2 hts (zz_gS mw_691 mw_692 mw_101 mc_yX4_isIn) rfl hrc hrs (by decide +kernel) hR
theorem csV_62 {R : Room} {s : State} {args : Array Value} {rm : Room} {mc ms : Nat} (hts : ∀ w ∈ ws0, w.before args s = true) (hrc : rm.cells = mc) (hrs : rm.slots = ms) (hR : rm.frames + 1 ≤ R.frames ∧ 8 + (3 + 11) + rm.locals ≤ R.locals) : CallW R s args "ScaleShop$Law" RX8 98 yX8_rowThere cX8_rowThere 3 (some (.object "ScaleShop$Row")) (.code yX8_rowThere cX8_rowThere 3 (some (.object "ScaleShop$Row")) :: ws0) rm mc ms 1 := cwV 1 hts (zz_gV mw_612 mw_613 mw_614 mw_100 mc_yX8_rowThere) rfl hrc hrs (by decide +kernel) hR
theorem csV_63 {R : Room} {s : State} {args : Array Value} {rm : Room} {mc ms : Nat} (hts : ∀ w ∈ ws0, w.before args s = true) (hrc : rm.cells = mc) (hrs : rm.slots = ms) (hR : rm.frames + 1 ≤ R.frames ∧ 8 + (2 + 11) + rm.locals ≤ R.locals) : CallW R s args "ScaleShop$Law" RX8 102 yX8_find cX8_find 2 (some (.object "ScaleShop$Feature")) (.code yX8_find cX8_find 2 (some (.object "ScaleShop$Feature")) :: ws0) rm mc ms 1 := cwV 1 hts (zz_gV mw_617 mw_499 mw_500 mw_100 mc_yX8_find) rfl hrc hrs (by decide +kernel) hR
theorem csV_64 {R : Room} {s : State} {args : Array Value} {rm : Room} {mc ms : Nat} (hts : ∀ w ∈ ws0, w.before args s = true) (hrc : rm.cells = mc) (hrs : rm.slots = ms) (hR : rm.frames + 1 ≤ R.frames ∧ 8 + (4 + 11) + rm.locals ≤ R.locals) : CallW R s args "ScaleShop$Law" RX7 106 yX7_isOnSet cX7_isOnSet 4 (some .boolean) (.code yX7_isOnSet cX7_isOnSet 4 (some .boolean) :: ws0) rm mc ms 2 := cwV 2 hts (zz_gV mw_618 mw_619 mw_620 mw_102 mc_yX7_isOnSet) rfl hrc hrs (by decide +kernel) hR
theorem csV_65 {R : Room} {s : State} {args : Array Value} {rm : Room} {mc ms : Nat} (hts : ∀ w ∈ ws0, w.before args s = true) (hrc : rm.cells = mc) (hrs : rm.slots = ms) (hR : rm.frames + 1 ≤ R.frames ∧ 8 + (2 + 11) + rm.locals ≤ R.locals) : CallW R s args "ScaleShop$Law" RX7 110 yX7_arePlaces cX7_arePlaces 2 (some .boolean) (.code yX7_arePlaces cX7_arePlaces 2 (some .boolean) :: ws0) rm mc ms 0 := cwV 0 hts (zz_gV mw_634 mw_635 mw_636 mw_102 mc_yX7_arePlaces) rfl hrc hrs (by decide +kernel) hR
theorem csV_66 {R : Room} {s : State} {args : Array Value} {rm : Room} {mc ms : Nat} (hts : ∀ w ∈ ws0, w.before args s = true) (hrc : rm.cells = mc) (hrs : rm.slots = ms) (hR : rm.frames + 1 ≤ R.frames ∧ 8 + (5 + 11) + rm.locals ≤ R.locals) : CallW R s args "ScaleShop$Law" RX7 120 yX7_isEdgeFree cX7_isEdgeFree 5 (some .boolean) (.code yX7_isEdgeFree cX7_isEdgeFree 5 (some .boolean) :: ws0) rm mc ms 2 := cwV 2 hts (zz_gV mw_640 mw_533 mw_534 mw_102 mc_yX7_isEdgeFree) rfl hrc hrs (by decide +kernel) hR
theorem csV_67 {R : Room} {s : State} {args : Array Value} {rm : Room} {mc ms : Nat} (hts : ∀ w ∈ ws0, w.before args s = true) (hrc : rm.cells = mc) (hrs : rm.slots = ms) (hR : rm.frames + 1 ≤ R.frames ∧ 8 + (3 + 11) + rm.locals ≤ R.locals) : CallW R s args "ScaleShop$Law" RX4 126 yX4_measureReach cX4_measureReach 3 none (.code yX4_measureReach cX4_measureReach 3 none :: ws0) rm mc ms 2 := cwV 2 hts (zz_gV mw_642 mw_644 mw_10 mw_101 mc_yX4_measureReach) rfl hrc hrs (by decide +kernel) hR
theorem csV_68 {R : Room} {s : State} {args : Array Value} {rm : Room} {mc ms : Nat} (hts : ∀ w ∈ ws0, w.before args s = true) (hrc : rm.cells = mc) (hrs : rm.slots = ms) (hR : rm.frames + 1 ≤ R.frames ∧ 8 + (2 + 11) + rm.locals ≤ R.locals) : CallW R s args "ScaleShop$Law" RX0 133 yX0_isApart cX0_isApart 2 (some .boolean) (.code yX0_isApart cX0_isApart 2 (some .boolean) :: ws0) rm mc ms 1 := cwV 1 hts (zz_gV mw_666 mw_667 mw_668 mw_104 mc_yX0_isApart) rfl hrc hrs (by decide +kernel) hR
theorem csV_69 {R : Room} {s : State} {args : Array Value} {rm : Room} {mc ms : Nat} (hts : ∀ w ∈ ws0, w.before args s = true) (hrc : rm.cells = mc) (hrs : rm.slots = ms) (hR : rm.frames + 1 ≤ R.frames ∧ 8 + (4 + 11) + rm.locals ≤ R.locals) : CallW R s args "ScaleShop$Law" RX4 137 yX4_isAsBefore cX4_isAsBefore 4 (some .boolean) (.code yX4_isAsBefore cX4_isAsBefore 4 (some .boolean) :: ws0) rm mc ms 3 := cwV 3 hts (zz_gV mw_675 mw_677 mw_11 mw_101 mc_yX4_isAsBefore) rfl hrc hrs (by decide +kernel) hR
theorem csV_70 {R : Room} {s : State} {args : Array Value} {rm : Room} {mc ms : Nat} (hts : ∀ w ∈ ws0, w.before args s = true) (hrc : rm.cells = mc) (hrs : rm.slots = ms) (hR : rm.frames + 1 ≤ R.frames ∧ 8 + (3 + 11) + rm.locals ≤ R.locals) : CallW R s args "ScaleShop$Law" RX7 123 yX7_isSound cX7_isSound 3 (some .boolean) (.code yX7_isSound cX7_isSound 3 (some .boolean) :: ws0) rm mc ms 1 := cwV 1 hts (zz_gV mw_641 mw_525 mw_526 mw_102 mc_yX7_isSound) rfl hrc hrs (by decide +kernel) hR
theorem csV_71 {R : Room} {s : State} {args : Array Value} {rm : Room} {mc ms : Nat} (hts : ∀ w ∈ ws0, w.before args s = true) (hrc : rm.cells = mc) (hrs : rm.slots = ms) (hR : rm.frames + 1 ≤ R.frames ∧ 8 + (5 + 11) + rm.locals ≤ R.locals) : CallW R s args "ScaleShop$Law" RX4 67 yX4_leastArea cX4_leastArea 5 (some .int) (.code yX4_leastArea cX4_leastArea 5 (some .int) :: ws0) rm mc ms 2 := cwV 2 hts (zz_gV mw_591 mw_593 mw_8 mw_101 mc_yX4_leastArea) rfl hrc hrs (by decide +kernel) hR
theorem csV_72 {R : Room} {s : State} {args : Array Value} {rm : Room} {mc ms : Nat} (hts : ∀ w ∈ ws0, w.before args s = true) (hrc : rm.cells = mc) (hrs : rm.slots = ms) (hR : rm.frames + 1 ≤ R.frames ∧ 8 + (3 + 11) + rm.locals ≤ R.locals) : CallW R s args "ScaleShop$Law" RX7 71 yX7_copyFrom cX7_copyFrom 3 none (.code yX7_copyFrom cX7_copyFrom 3 none :: ws0) rm mc ms 1 := cwV 1 hts (zz_gV mw_595 mw_596 mw_597 mw_102 mc_yX7_copyFrom) rfl hrc hrs (by decide +kernel) hR
theorem csV_73 {R : Room} {s : State} {args : Array Value} {rm : Room} {mc ms : Nat} (hts : ∀ w ∈ ws0, w.before args s = true) (hrc : rm.cells = mc) (hrs : rm.slots = ms) (hR : rm.frames + 1 ≤ R.frames ∧ 8 + (3 + 11) + rm.locals ≤ R.locals) : CallW R s args "ScaleShop$Law" RX7 75 yX7_cut cX7_cut 3 none (.code yX7_cut cX7_cut 3 none :: ws0) rm mc ms 1 := cwV 1 hts (zz_gV mw_604 mw_605 mw_606 mw_102 mc_yX7_cut) rfl hrc hrs (by decide +kernel) hR
theorem csV_74 {R : Room} {s : State} {args : Array Value} {rm : Room} {mc ms : Nat} (hts : ∀ w ∈ ws0, w.before args s = true) (hrc : rm.cells = mc) (hrs : rm.slots = ms) (hR : rm.frames + 1 ≤ R.frames ∧ 8 + (7 + 11) + rm.locals ≤ R.locals) : CallW R s args "ScaleShop$Law" RX4 85 yX4_isBare cX4_isBare 7 (some .boolean) (.code yX4_isBare cX4_isBare 7 (some .boolean) :: ws0) rm mc ms 4 := cwV 4 hts (zz_gV mw_608 mw_610 mw_9 mw_101 mc_yX4_isBare) rfl hrc hrs (by decide +kernel) hR
theorem csV_75 {R : Room} {s : State} {args : Array Value} {rm : Room} {mc ms : Nat} (hts : ∀ w ∈ ws0, w.before args s = true) (hrc : rm.cells = mc) (hrs : rm.slots = ms) (hR : rm.frames + 1 ≤ R.frames ∧ 8 + (9 + 11) + rm.locals ≤ R.locals) : CallW R s args "ScaleShop$Law" RX4 89 yX4_allows cX4_allows 9 (some .boolean) (.code yX4_allows cX4_allows 9 (some .boolean) :: ws0) rm mc ms 3 := cwV 3 hts (zz_gV mw_630 mw_631 mw_632 mw_101 mc_yX4_allows) rfl hrc hrs (by decide +kernel) hR
theorem csV_76 {R : Room} {s : State} {args : Array Value} {rm : Room} {mc ms : Nat} (hts : ∀ w ∈ ws0, w.before args s = true) (hrc : rm.cells = mc) (hrs : rm.slots = ms) (hR : rm.frames + 1 ≤ R.frames ∧ 8 + (2 + 11) + rm.locals ≤ R.locals) : CallW R s args "ScaleShop$Law" RX7 59 yX7_isEnd cX7_isEnd 2 (some .boolean) (.code yX7_isEnd cX7_isEnd 2 (some .boolean) :: ws0) rm mc ms 1 := cwV 1 hts (zz_gV mw_576 mw_577 mw_578 mw_102 mc_yX7_isEnd) rfl hrc hrs (by decide +kernel) hR
theorem csV_77 {R : Room} {s : State} {args : Array Value} {rm : Room} {mc ms : Nat} (hts : ∀ w ∈ ws0, w.before args s = true) (hrc : rm.cells = mc) (hrs : rm.slots = ms) (hR : rm.frames + 1 ≤ R.frames ∧ 8 + (3 + 11) + rm.locals ≤ R.locals) : CallW R s args "ScaleShop$Law" RX7 63 yX7_doubleTriangle cX7_doubleTriangle 3 (some .int) (.code yX7_doubleTriangle cX7_doubleTriangle 3 (some .int) :: ws0) rm mc ms 1 := cwV 1 hts (zz_gV mw_580 mw_581 mw_582 mw_102 mc_yX7_doubleTriangle) rfl hrc hrs (by decide +kernel) hR
theorem csV_78 {R : Room} {s : State} {args : Array Value} {rm : Room} {mc ms : Nat} (hts : ∀ w ∈ ws0, w.before args s = true) (hrc : rm.cells = mc) (hrs : rm.slots = ms) (hR : rm.frames + 1 ≤ R.frames ∧ 8 + (7 + 11) + rm.locals ≤ R.locals) : CallW R s args "ScaleShop" RX4 399 yX4_cornerThatGoes cX4_cornerThatGoes 7 (some .int) (.code yX4_cornerThatGoes cX4_cornerThatGoes 7 (some .int) :: ws0) rm mc ms 3 := cwV 3 hts (zz_gV mw_572 mw_573 mw_574 mw_101 mc_yX4_cornerThatGoes) rfl hrc hrs (by decide +kernel) hR
theorem csV_79 {R : Room} {s : State} {args : Array Value} {rm : Room} {mc ms : Nat} (hts : ∀ w ∈ ws0, w.before args s = true) (hrc : rm.cells = mc) (hrs : rm.slots = ms) (hR : rm.frames + 1 ≤ R.frames ∧ 8 + (2 + 11) + rm.locals ≤ R.locals) : CallW R s args "ScaleShop" RX2 403 yX2_lose cX2_lose 2 none (.code yX2_lose cX2_lose 2 none :: ws0) rm mc ms 1 := cwV 1 hts (zz_gV mw_726 mw_727 mw_728 mw_111 mc_yX2_lose) rfl hrc hrs (by decide +kernel) hR
theorem csV_80 {R : Room} {s : State} {args : Array Value} {rm : Room} {mc ms : Nat} (hts : ∀ w ∈ ws0, w.before args s = true) (hrc : rm.cells = mc) (hrs : rm.slots = ms) (hR : rm.frames + 1 ≤ R.frames ∧ 8 + (2 + 11) + rm.locals ≤ R.locals) : CallW R s args "java/util/ArrayList" RJx4a65c 123 yJx4a65c_elementData_915e3 cJx4a65c_elementData_915e3 2 (some (.object "java/lang/Object")) (.code yJx4a65c_elementData_915e3 cJx4a65c_elementData_915e3 2 (some (.object "java/lang/Object")) :: ws0) rm mc ms 1 := cwV 1 hts (zz_gV mw_1036 mw_1037 mw_1038 mw_109 mc_yJx4a65c_elementData_915e3) rfl hrc hrs (by decide +kernel) hR
theorem csV_81 {R : Room} {s : State} {args : Array Value} {rm : Room} {mc ms : Nat} (hts : ∀ w ∈ ws0, w.before args s = true) (hrc : rm.cells = mc) (hrs : rm.slots = ms) (hR : rm.frames + 1 ≤ R.frames ∧ 8 + (4 + 11) + rm.locals ≤ R.locals) : CallW R s args "java/util/ArrayList" RJx4a65c 144 yJx4a65c_fastRemove_b59b0 cJx4a65c_fastRemove_b59b0 4 none (.code yJx4a65c_fastRemove_b59b0 cJx4a65c_fastRemove_b59b0 4 none :: ws0) rm mc ms 2 := cwV 2 hts (zz_gV mw_482 mw_484 mw_3 mw_109 mc_yJx4a65c_fastRemove_b59b0) rfl hrc hrs (by decide +kernel) hR
theorem csV_82 {R : Room} {s : State} {args : Array Value} {rm : Room} {mc ms : Nat} (hts : ∀ w ∈ ws0, w.before args s = true) (hrc : rm.cells = mc) (hrs : rm.slots = ms) (hR : rm.frames + 1 ≤ R.frames ∧ 8 + (4 + 11) + rm.locals ≤ R.locals) : CallW R s args "java/util/ArrayList" RJx4a65c 69 yJx4a65c_grow_92f84 cJx4a65c_grow_92f84 4 (some (.array (.object "java/lang/Object"))) (.code yJx4a65c_grow_92f84 cJx4a65c_grow_92f84 4 (some (.array (.object "java/lang/Object"))) :: ws0) rm mc ms 1 := cwV 1 hts (zz_gV mw_819 mw_821 mw_23 mw_109 mc_yJx4a65c_grow_92f84) rfl hrc hrs (by decide +kernel) hR
theorem csV_83 {R : Room} {s : State} {args : Array Value} {rm : Room} {mc ms : Nat} (hts : ∀ w ∈ ws0, w.before args s = true) (hrc : rm.cells = mc) (hrs : rm.slots = ms) (hR : rm.frames + 1 ≤ R.frames ∧ 8 + (1 + 11) + rm.locals ≤ R.locals) : CallW R s args "java/util/ArrayList" RJx4a65c 129 yJx4a65c_grow_d5877 cJx4a65c_grow_d5877 1 (some (.array (.object "java/lang/Object"))) (.code yJx4a65c_grow_d5877 cJx4a65c_grow_d5877 1 (some (.array (.object "java/lang/Object"))) :: ws0) rm mc ms 0 := cwV 0 hts (zz_gV mw_815 mw_817 mw_22 mw_109 mc_yJx4a65c_grow_d5877) rfl hrc hrs (by decide +kernel) hR
theorem csV_84 {R : Room} {s : State} {args : Array Value} {rm : Room} {mc ms : Nat} (hts : ∀ w ∈ ws0, w.before args s = true) (hrc : rm.cells = mc) (hrs : rm.slots = ms) (hR : rm.frames + 1 ≤ R.frames ∧ 8 + (4 + 11) + rm.locals ≤ R.locals) : CallW R s args "java/util/ArrayList" RJx4a65c 131 yJx4a65c_add_72be8 cJx4a65c_add_72be8 4 none (.code yJx4a65c_add_72be8 cJx4a65c_add_72be8 4 none :: ws0) rm mc ms 3 := cwV 3 hts (zz_gV mw_811 mw_813 mw_21 mw_109 mc_yJx4a65c_add_72be8) rfl hrc hrs (by decide +kernel) hR
theorem csS_85 {R : Room} {s : State} {args : Array Value} {rm : Room} {mc ms : Nat} (hts : ∀ w ∈ ws0, w.before args s = true) (hrc : rm.cells = mc) (hrs : rm.slots = ms) (hR : rm.frames + 1 ≤ R.frames ∧ 8 + (3 + 11) + rm.locals ≤ R.locals) : CallB R s args "java/util/Objects" 105 yJ3_checkIndex_8e157 cJ3_checkIndex_8e157 3 (some .int) (.code yJ3_checkIndex_8e157 cJ3_checkIndex_8e157 3 (some .int) :: ws0) rm mc ms 3 ∧ (Cond.static yJ3_checkIndex_8e157).before args s = true := va_cwS 3 hts (zz_gS mw_479 mw_480 mw_114 mc_yJ3_checkIndex_8e157) rfl hrc hrs (by decide +kernel) hR
theorem csS_86 {R : Room} {s : State} {args : Array Value} {rm : Room} {mc ms : Nat} (hts : ∀ w ∈ ws0, w.before args s = true) (hrc : rm.cells = mc) (hrs : rm.slots = ms) (hR : rm.frames + 1 ≤ R.frames ∧ 8 + (2 + 11) + rm.locals ≤ R.locals) : CallB R s args "java/util/ArrayList" 118 yJ15_checkIndex_7cf53 cJ15_checkIndex_7cf53 2 (some .int) (.code yJ15_checkIndex_7cf53 cJ15_checkIndex_7cf53 2 (some .int) :: ws0) rm mc ms 2 ∧ (Cond.static yJ15_checkIndex_7cf53).before args s = true := va_cwS 2 hts (zz_gS mw_476 mw_477 mw_113 mc_yJ15_checkIndex_7cf53) rfl hrc hrs (by decide +kernel) hR
theorem csS_87 {R : Room} {s : State} {args : Array Value} {rm : Room} {mc ms : Nat} (hts : ∀ w ∈ ws0, w.before args s = true) (hrc : rm.cells = mc) (hrs : rm.slots = ms) (hR : rm.frames + 1 ≤ R.frames ∧ 8 + (4 + 11) + rm.locals ≤ R.locals) : CallB R s args "java/util/Arrays" 300 yJ7_copyOf_6403c cJ7_copyOf_6403c 4 (some (.array (.object "java/lang/Object"))) (.code yJ7_copyOf_6403c cJ7_copyOf_6403c 4 (some (.array (.object "java/lang/Object"))) :: ws0) rm mc ms 3 ∧ (Cond.static yJ7_copyOf_6403c).before args s = true := va_cwS 3 hts (zz_gS mw_851 mw_852 mw_119 mc_yJ7_copyOf_6403c) rfl hrc hrs (by decide +kernel) hR
theorem csS_88 {R : Room} {s : State} {args : Array Value} {rm : Room} {mc ms : Nat} (hts : ∀ w ∈ ws0, w.before args s = true) (hrc : rm.cells = mc) (hrs : rm.slots = ms) (hR : rm.frames + 1 ≤ R.frames ∧ 8 + (4 + 11) + rm.locals ≤ R.locals) : CallB R s args "java/util/ArrayList" 73 yJ8_newLength_cabcc cJ8_newLength_cabcc 4 (some .int) (.code yJ8_newLength_cabcc cJ8_newLength_cabcc 4 (some .int) :: ws0) rm mc ms 3 ∧ (Cond.static yJ8_newLength_cabcc).before args s = true := va_cwS 3 hts (zz_gS mw_823 mw_824 mw_118 mc_yJ8_newLength_cabcc) rfl hrc hrs (by decide +kernel) hR
theorem csS_89 {R : Room} {s : State} {args : Array Value} {rm : Room} {mc ms : Nat} (hts : ∀ w ∈ ws0, w.before args s = true) (hrc : rm.cells = mc) (hrs : rm.slots = ms) (hR : rm.frames + 1 ≤ R.frames ∧ 8 + (2 + 11) + rm.locals ≤ R.locals) : CallB R s args "java/util/ArrayList" 66 yJ7_copyOf_1904c cJ7_copyOf_1904c 2 (some (.array (.object "java/lang/Object"))) (.code yJ7_copyOf_1904c cJ7_copyOf_1904c 2 (some (.array (.object "java/lang/Object"))) :: ws0) rm mc ms 2 ∧ (Cond.static yJ7_copyOf_1904c).before args s = true := va_cwS 2 hts (zz_gS mw_831 mw_832 mw_119 mc_yJ7_copyOf_1904c) rfl hrc hrs (by decide +kernel) hR
theorem csV_90 {R : Room} {s : State} {args : Array Value} {rm : Room} {mc ms : Nat} (hts : ∀ w ∈ ws0, w.before args s = true) (hrc : rm.cells = mc) (hrs : rm.slots = ms) (hR : rm.frames + 1 ≤ R.frames ∧ 8 + (1 + 11) + rm.locals ≤ R.locals) : CallW R s args "ScaleShop" RJx4a65c 244 yJx4a65c_size_8abf5 cJx4a65c_size_8abf5 1 (some .int) (.code yJx4a65c_size_8abf5 cJx4a65c_size_8abf5 1 (some .int) :: ws0) rm mc ms 0 := cwV 0 hts (zz_gV mw_468 mw_469 mw_470 mw_109 mc_yJx4a65c_size_8abf5) rfl hrc hrs (by decide +kernel) hR
theorem csV_91 {R : Room} {s : State} {args : Array Value} {rm : Room} {mc ms : Nat} (hts : ∀ w ∈ ws0, w.before args s = true) (hrc : rm.cells = mc) (hrs : rm.slots = ms) (hR : rm.frames + 1 ≤ R.frames ∧ 8 + (4 + 11) + rm.locals ≤ R.locals) : CallW R s args "ScaleShop" RJx4a65c 375 yJx4a65c_remove_915e3 cJx4a65c_remove_915e3 4 (some (.object "java/lang/Object")) (.code yJx4a65c_remove_915e3 cJx4a65c_remove_915e3 4 (some (.object "java/lang/Object")) :: ws0) rm mc ms 1 := cwV 1 hts (zz_gV mw_472 mw_473 mw_474 mw_109 mc_yJx4a65c_remove_915e3) rfl hrc hrs (by decide +kernel) hR
theorem csV_92 {R : Room} {s : State} {args : Array Value} {rm : Room} {mc ms : Nat} (hts : ∀ w ∈ ws0, w.before args s = true) (hrc : rm.cells = mc) (hrs : rm.slots = ms) (hR : rm.frames + 1 ≤ R.frames ∧ 8 + (2 + 11) + rm.locals ≤ R.locals) : CallW R s args "ScaleShop" RX10 372 yX10_forgetUndone cX10_forgetUndone 2 none (.code yX10_forgetUndone cX10_forgetUndone 2 none :: ws0) rm mc ms 0 := cwV 0 hts (zz_gV mw_464 mw_466 mw_2 mw_99 mc_yX10_forgetUndone) rfl hrc hrs (by decide +kernel) hR
theorem csV_93 {R : Room} {s : State} {args : Array Value} {rm : Room} {mc ms : Nat} (hts : ∀ w ∈ ws0, w.before args s = true) (hrc : rm.cells = mc) (hrs : rm.slots = ms) (hR : rm.frames + 1 ≤ R.frames ∧ 8 + (2 + 11) + rm.locals ≤ R.locals) : CallW R s args "ScaleShop" RJx4a65c 393 yJx4a65c_add_9ea2d cJx4a65c_add_9ea2d 2 (some .boolean) (.code yJx4a65c_add_9ea2d cJx4a65c_add_9ea2d 2 (some .boolean) :: ws0) rm mc ms 1 := cwV 1 hts (zz_gV mw_807 mw_808 mw_809 mw_109 mc_yJx4a65c_add_9ea2d) rfl hrc hrs (by decide +kernel) hR
theorem csV_94 {R : Room} {s : State} {args : Array Value} {rm : Room} {mc ms : Nat} (hts : ∀ w ∈ ws0, w.before args s = true) (hrc : rm.cells = mc) (hrs : rm.slots = ms) (hR : rm.frames + 1 ≤ R.frames ∧ 8 + (2 + 11) + rm.locals ≤ R.locals) : CallW R s args "ScaleShop" RX8 116 yX8_find cX8_find 2 (some (.object "ScaleShop$Feature")) (.code yX8_find cX8_find 2 (some (.object "ScaleShop$Feature")) :: ws0) rm mc ms 1 := cwV 1 hts (zz_gV mw_498 mw_499 mw_500 mw_100 mc_yX8_find) rfl hrc hrs (by decide +kernel) hR
theorem csV_95 {R : Room} {s : State} {args : Array Value} {rm : Room} {mc ms : Nat} (hts : ∀ w ∈ ws0, w.before args s = true) (hrc : rm.cells = mc) (hrs : rm.slots = ms) (hR : rm.frames + 1 ≤ R.frames ∧ 8 + (2 + 11) + rm.locals ≤ R.locals) : CallW R s args "ScaleShop" RX10 78 yX10_refuse cX10_refuse 2 (some .int) (.code yX10_refuse cX10_refuse 2 (some .int) :: ws0) rm mc ms 1 := cwV 1 hts (zz_gV mw_356 mw_358 mw_0 mw_99 mc_yX10_refuse) rfl hrc hrs (by decide +kernel) hR
theorem csV_96 {R : Room} {s : State} {args : Array Value} {rm : Room} {mc ms : Nat} (hts : ∀ w ∈ ws0, w.before args s = true) (hrc : rm.cells = mc) (hrs : rm.slots = ms) (hR : rm.frames + 1 ≤ R.frames ∧ 8 + (2 + 11) + rm.locals ≤ R.locals) : CallW R s args "ScaleShop" RX10 137 yX10_deny cX10_deny 2 (some .boolean) (.code yX10_deny cX10_deny 2 (some .boolean) :: ws0) rm mc ms 1 := cwV 1 hts (zz_gV mw_513 mw_515 mw_4 mw_99 mc_yX10_deny) rfl hrc hrs (by decide +kernel) hR
theorem csV_97 {R : Room} {s : State} {args : Array Value} {rm : Room} {mc ms : Nat} (hts : ∀ w ∈ ws0, w.before args s = true) (hrc : rm.cells = mc) (hrs : rm.slots = ms) (hR : rm.frames + 1 ≤ R.frames ∧ 8 + (1 + 11) + rm.locals ≤ R.locals) : CallW R s args "ScaleShop" RX2 147 yX2_bends cX2_bends 1 (some .boolean) (.code yX2_bends cX2_bends 1 (some .boolean) :: ws0) rm mc ms 0 := cwV 0 hts (zz_gV mw_564 mw_565 mw_566 mw_111 mc_yX2_bends) rfl hrc hrs (by decide +kernel) hR
theorem csS_98 {R : Room} {s : State} {args : Array Value} {rm : Room} {mc ms : Nat} (hts : ∀ w ∈ ws0, w.before args s = true) (hrc : rm.cells = mc) (hrs : rm.slots = ms) (hR : rm.frames + 1 ≤ R.frames ∧ 8 + (2 + 11) + rm.locals ≤ R.locals) : CallB R s args "ScaleShop" 123 yX10_isPlace cX10_isPlace 2 (some .boolean) (.code yX10_isPlace cX10_isPlace 2 (some .boolean) :: ws0) rm mc ms 2 ∧ (Cond.static yX10_isPlace).before args s = true := va_cwS 2 hts (zz_gS mw_502 mw_503 mw_99 mc_yX10_isPlace) rfl hrc hrs (by decide +kernel) hR
theorem csS_99 {R : Room} {s : State} {args : Array Value} {rm : Room} {mc ms : Nat} (hts : ∀ w ∈ ws0, w.before args s = true) (hrc : rm.cells = mc) (hrs : rm.slots = ms) (hR : rm.frames + 1 ≤ R.frames ∧ 8 + (1 + 11) + rm.locals ≤ R.locals) : CallB R s args "ScaleShop" 97 yX10_mostCorners cX10_mostCorners 1 (some .int) (.code yX10_mostCorners cX10_mostCorners 1 (some .int) :: ws0) rm mc ms 1 ∧ (Cond.static yX10_mostCorners).before args s = true := va_cwS 1 hts (zz_gS mw_456 mw_457 mw_99 mc_yX10_mostCorners) rfl hrc hrs (by decide +kernel) hR
theorem csV_100 {R : Room} {s : State} {args : Array Value} {rm : Room} {mc ms : Nat} (hts : ∀ w ∈ ws0, w.before args s = true) (hrc : rm.cells = mc) (hrs : rm.slots = ms) (hR : rm.frames + 1 ≤ R.frames ∧ 8 + (2 + 11) + rm.locals ≤ R.locals) : CallW R s args "ScaleShop" RX2 220 yX2_leave cX2_leave 2 none (.code yX2_leave cX2_leave 2 none :: ws0) rm mc ms 1 := cwV 1 hts (zz_gV mw_967 mw_968 mw_969 mw_111 mc_yX2_leave) rfl hrc hrs (by decide +kernel) hR
theorem csV_101 {R : Room} {s : State} {args : Array Value} {rm : Room} {mc ms : Nat} (hts : ∀ w ∈ ws0, w.before args s = true) (hrc : rm.cells = mc) (hrs : rm.slots = ms) (hR : rm.frames + 1 ≤ R.frames ∧ 8 + (8 + 11) + rm.locals ≤ R.locals) : CallW R s args "ScaleShop" RX10 154 yX10_book cX10_book 8 (some .boolean) (.code yX10_book cX10_book 8 (some .boolean) :: ws0) rm mc ms 4 := cwV 4 hts (zz_gV mw_753 mw_755 mw_20 mw_99 mc_yX10_book) rfl hrc hrs (by decide +kernel) hR
theorem csV_102 {R : Room} {s : State} {args : Array Value} {rm : Room} {mc ms : Nat} (hts : ∀ w ∈ ws0, w.before args s = true) (hrc : rm.cells = mc) (hrs : rm.slots = ms) (hR : rm.frames + 1 ≤ R.frames ∧ 8 + (1 + 11) + rm.locals ≤ R.locals) : CallW R s args "ScaleShop" RX10 109 yX10_seal cX10_seal 1 (some .boolean) (.code yX10_seal cX10_seal 1 (some .boolean) :: ws0) rm mc ms 0 := cwV 0 hts (zz_gV mw_460 mw_462 mw_1 mw_99 mc_yX10_seal) rfl hrc hrs (by decide +kernel) hR
theorem csV_103 {R : Room} {s : State} {args : Array Value} {rm : Room} {mc ms : Nat} (hts : ∀ w ∈ ws0, w.before args s = true) (hrc : rm.cells = mc) (hrs : rm.slots = ms) (hR : rm.frames + 1 ≤ R.frames ∧ 8 + (3 + 11) + rm.locals ≤ R.locals) : CallW R s args "ScaleShop" RX7 144 yX7_isSound cX7_isSound 3 (some .boolean) (.code yX7_isSound cX7_isSound 3 (some .boolean) :: ws0) rm mc ms 1 := cwV 1 hts (zz_gV mw_524 mw_525 mw_526 mw_102 mc_yX7_isSound) rfl hrc hrs (by decide +kernel) hR
theorem csV_104 {R : Room} {s : State} {args : Array Value} {rm : Room} {mc ms : Nat} (hts : ∀ w ∈ ws0, w.before args s = true) (hrc : rm.cells = mc) (hrs : rm.slots = ms) (hR : rm.frames + 1 ≤ R.frames ∧ 8 + (3 + 11) + rm.locals ≤ R.locals) : CallW R s args "ScaleShop" RX7 133 yX7_put cX7_put 3 none (.code yX7_put cX7_put 3 none :: ws0) rm mc ms 2 := cwV 2 hts (zz_gV mw_505 mw_506 mw_507 mw_102 mc_yX7_put) rfl hrc hrs (by decide +kernel) hR
theorem csV_105 {R : Room} {s : State} {args : Array Value} {rm : Room} {mc ms : Nat} (hts : ∀ w ∈ ws0, w.before args s = true) (hrc : rm.cells = mc) (hrs : rm.slots = ms) (hR : rm.frames + 1 ≤ R.frames ∧ 8 + (1 + 11) + rm.locals ≤ R.locals) : CallW R s args "ScaleShop" RX8 82 yX8_isFull cX8_isFull 1 (some .boolean) (.code yX8_isFull cX8_isFull 1 (some .boolean) :: ws0) rm mc ms 0 := cwV 0 hts (zz_gV mw_360 mw_361 mw_362 mw_100 mc_yX8_isFull) rfl hrc hrs (by decide +kernel) hR
theorem csV_106 {R : Room} {s : State} {args : Array Value} {rm : Room} {mc ms : Nat} (hts : ∀ w ∈ ws0, w.before args s = true) (hrc : rm.cells = mc) (hrs : rm.slots = ms) (hR : rm.frames + 1 ≤ R.frames ∧ 8 + (2 + 11) + rm.locals ≤ R.locals) : CallW R s args "ScaleShop" RX8 112 yX8_add cX8_add 2 (some .int) (.code yX8_add cX8_add 2 (some .int) :: ws0) rm mc ms 1 := cwV 1 hts (zz_gV mw_489 mw_490 mw_491 mw_100 mc_yX8_add) rfl hrc hrs (by decide +kernel) hR
theorem csS_107 {R : Room} {s : State} {args : Array Value} {rm : Room} {mc ms : Nat} (hts : ∀ w ∈ ws0, w.before args s = true) (hrc : rm.cells = mc) (hrs : rm.slots = ms) (hR : rm.frames + 1 ≤ R.frames ∧ 8 + (1 + 11) + rm.locals ≤ R.locals) : CallB R s args "ScaleShop" 141 yX10_fewestCorners cX10_fewestCorners 1 (some .int) (.code yX10_fewestCorners cX10_fewestCorners 1 (some .int) :: ws0) rm mc ms 1 ∧ (Cond.static yX10_fewestCorners).before args s = true := va_cwS 1 hts (zz_gS mw_521 mw_522 mw_99 mc_yX10_fewestCorners) rfl hrc hrs (by decide +kernel) hR
theorem csV_108 {R : Room} {s : State} {args : Array Value} {rm : Room} {mc ms : Nat} (hts : ∀ w ∈ ws0, w.before args s = true) (hrc : rm.cells = mc) (hrs : rm.slots = ms) (hR : rm.frames + 1 ≤ R.frames ∧ 8 + (6 + 11) + rm.locals ≤ R.locals) : CallW R s args "ScaleShop" RX10 150 yX10_thin cX10_thin 6 (some .int) (.code yX10_thin cX10_thin 6 (some .int) :: ws0) rm mc ms 2 := cwV 2 hts (zz_gV mw_568 mw_570 mw_7 mw_99 mc_yX10_thin) rfl hrc hrs (by decide +kernel) hR
theorem csV_109 {R : Room} {s : State} {args : Array Value} {rm : Room} {mc ms : Nat} (hts : ∀ w ∈ ws0, w.before args s = true) (hrc : rm.cells = mc) (hrs : rm.slots = ms) (hR : rm.frames + 1 ≤ R.frames ∧ 8 + (9 + 11) + rm.locals ≤ R.locals) : CallW R s args "ScaleShop" RX4 195 yX4_allows cX4_allows 9 (some .boolean) (.code yX4_allows cX4_allows 9 (some .boolean) :: ws0) rm mc ms 3 := cwV 3 hts (zz_gV mw_876 mw_631 mw_632 mw_101 mc_yX4_allows) rfl hrc hrs (by decide +kernel) hR
theorem csV_110 {R : Room} {s : State} {args : Array Value} {rm : Room} {mc ms : Nat} (hts : ∀ w ∈ ws0, w.before args s = true) (hrc : rm.cells = mc) (hrs : rm.slots = ms) (hR : rm.frames + 1 ≤ R.frames ∧ 8 + (3 + 11) + rm.locals ≤ R.locals) : CallW R s args "ScaleShop" RX7 396 yX7_isAlike cX7_isAlike 3 (some .boolean) (.code yX7_isAlike cX7_isAlike 3 (some .boolean) :: ws0) rm mc ms 1 := cwV 1 hts (zz_gV mw_877 mw_878 mw_879 mw_102 mc_yX7_isAlike) rfl hrc hrs (by decide +kernel) hR
theorem csV_111 {R : Room} {s : State} {args : Array Value} {rm : Room} {mc ms : Nat} (hts : ∀ w ∈ ws0, w.before args s = true) (hrc : rm.cells = mc) (hrs : rm.slots = ms) (hR : rm.frames + 1 ≤ R.frames ∧ 8 + (2 + 11) + rm.locals ≤ R.locals) : CallW R s args "ScaleShop" RX2 199 yX2_reshape cX2_reshape 2 none (.code yX2_reshape cX2_reshape 2 none :: ws0) rm mc ms 1 := cwV 1 hts (zz_gV mw_881 mw_731 mw_732 mw_111 mc_yX2_reshape) rfl hrc hrs (by decide +kernel) hR
theorem csV_112 {R : Room} {s : State} {args : Array Value} {rm : Room} {mc ms : Nat} (hts : ∀ w ∈ ws0, w.before args s = true) (hrc : rm.cells = mc) (hrs : rm.slots = ms) (hR : rm.frames + 1 ≤ R.frames ∧ 8 + (2 + 11) + rm.locals ≤ R.locals) : CallW R s args "ScaleShop" RJx4a65c 247 yJx4a65c_get_915e3 cJx4a65c_get_915e3 2 (some (.object "java/lang/Object")) (.code yJx4a65c_get_915e3 cJx4a65c_get_915e3 2 (some (.object "java/lang/Object")) :: ws0) rm mc ms 1 := cwV 1 hts (zz_gV mw_1032 mw_1033 mw_1034 mw_109 mc_yJx4a65c_get_915e3) rfl hrc hrs (by decide +kernel) hR
theorem csV_113 {R : Room} {s : State} {args : Array Value} {rm : Room} {mc ms : Nat} (hts : ∀ w ∈ ws0, w.before args s = true) (hrc : rm.cells = mc) (hrs : rm.slots = ms) (hR : rm.frames + 1 ≤ R.frames ∧ 8 + (2 + 11) + rm.locals ≤ R.locals) : CallW R s args "ScaleShop" RX9 253 yX9_takeBack cX9_takeBack 2 none (.code yX9_takeBack cX9_takeBack 2 none :: ws0) rm mc ms 0 := cwV 0 hts (zz_gV mw_1040 mw_1041 mw_1042 mw_116 mc_yX9_takeBack) rfl hrc hrs (by decide +kernel) hR
theorem csV_114 {R : Room} {s : State} {args : Array Value} {rm : Room} {mc ms : Nat} (hts : ∀ w ∈ ws0, w.before args s = true) (hrc : rm.cells = mc) (hrs : rm.slots = ms) (hR : rm.frames + 1 ≤ R.frames ∧ 8 + (1 + 11) + rm.locals ≤ R.locals) : CallW R s args "ScaleShop" RX8 260 yX8_removeLast cX8_removeLast 1 none (.code yX8_removeLast cX8_removeLast 1 none :: ws0) rm mc ms 0 := cwV 0 hts (zz_gV mw_1044 mw_1045 mw_1046 mw_100 mc_yX8_removeLast) rfl hrc hrs (by decide +kernel) hR
theorem csV_115 {R : Room} {s : State} {args : Array Value} {rm : Room} {mc ms : Nat} (hts : ∀ w ∈ ws0, w.before args s = true) (hrc : rm.cells = mc) (hrs : rm.slots = ms) (hR : rm.frames + 1 ≤ R.frames ∧ 8 + (2 + 11) + rm.locals ≤ R.locals) : CallW R s args "ScaleShop" RX9 263 yX9_repeat cX9_repeat 2 none (.code yX9_repeat cX9_repeat 2 none :: ws0) rm mc ms 0 := cwV 0 hts (zz_gV mw_1053 mw_1054 mw_1055 mw_116 mc_yX9_repeat) rfl hrc hrs (by decide +kernel) hR
theorem csV_116 {R : Room} {s : State} {args : Array Value} {rm : Room} {mc ms : Nat} (hts : ∀ w ∈ ws0, w.before args s = true) (hrc : rm.cells = mc) (hrs : rm.slots = ms) (hR : rm.frames + 1 ≤ R.frames ∧ 8 + (5 + 11) + rm.locals ≤ R.locals) : CallW R s args "ScaleShop" RX7 161 yX7_smoothFrom cX7_smoothFrom 5 none (.code yX7_smoothFrom cX7_smoothFrom 5 none :: ws0) rm mc ms 1 := cwV 1 hts (zz_gV mw_867 mw_868 mw_869 mw_102 mc_yX7_smoothFrom) rfl hrc hrs (by decide +kernel) hR
theorem csV_117 {R : Room} {s : State} {args : Array Value} {rm : Room} {mc ms : Nat} (hts : ∀ w ∈ ws0, w.before args s = true) (hrc : rm.cells = mc) (hrs : rm.slots = ms) (hR : rm.frames + 1 ≤ R.frames ∧ 8 + (4 + 11) + rm.locals ≤ R.locals) : CallW R s args "ScaleShop" RX10 165 yX10_moveTo cX10_moveTo 4 (some .boolean) (.code yX10_moveTo cX10_moveTo 4 (some .boolean) :: ws0) rm mc ms 3 := cwV 3 hts (zz_gV mw_872 mw_874 mw_24 mw_99 mc_yX10_moveTo) rfl hrc hrs (by decide +kernel) hR
theorem csV_118 {R : Room} {s : State} {args : Array Value} {rm : Room} {mc ms : Nat} (hts : ∀ w ∈ ws0, w.before args s = true) (hrc : rm.cells = mc) (hrs : rm.slots = ms) (hR : rm.frames + 1 ≤ R.frames ∧ 8 + (3 + 11) + rm.locals ≤ R.locals) : CallW R s args "ScaleShop" RX7 181 yX7_doubleFrom cX7_doubleFrom 3 none (.code yX7_doubleFrom cX7_doubleFrom 3 none :: ws0) rm mc ms 1 := cwV 1 hts (zz_gV mw_904 mw_905 mw_906 mw_102 mc_yX7_doubleFrom) rfl hrc hrs (by decide +kernel) hR
theorem csV_119 {R : Room} {s : State} {args : Array Value} {rm : Room} {mc ms : Nat} (hts : ∀ w ∈ ws0, w.before args s = true) (hrc : rm.cells = mc) (hrs : rm.slots = ms) (hR : rm.frames + 1 ≤ R.frames ∧ 8 + (2 + 11) + rm.locals ≤ R.locals) : CallW R s args "ScaleShop" RX2 169 yX2_mayHaveCorner cX2_mayHaveCorner 2 (some .boolean) (.code yX2_mayHaveCorner cX2_mayHaveCorner 2 (some .boolean) :: ws0) rm mc ms 1 := cwV 1 hts (zz_gV mw_886 mw_887 mw_888 mw_111 mc_yX2_mayHaveCorner) rfl hrc hrs (by decide +kernel) hR
theorem csV_120 {R : Room} {s : State} {args : Array Value} {rm : Room} {mc ms : Nat} (hts : ∀ w ∈ ws0, w.before args s = true) (hrc : rm.cells = mc) (hrs : rm.slots = ms) (hR : rm.frames + 1 ≤ R.frames ∧ 8 + (3 + 11) + rm.locals ≤ R.locals) : CallW R s args "ScaleShop" RX7 172 yX7_copyFrom cX7_copyFrom 3 none (.code yX7_copyFrom cX7_copyFrom 3 none :: ws0) rm mc ms 1 := cwV 1 hts (zz_gV mw_890 mw_596 mw_597 mw_102 mc_yX7_copyFrom) rfl hrc hrs (by decide +kernel) hR
theorem csV_121 {R : Room} {s : State} {args : Array Value} {rm : Room} {mc ms : Nat} (hts : ∀ w ∈ ws0, w.before args s = true) (hrc : rm.cells = mc) (hrs : rm.slots = ms) (hR : rm.frames + 1 ≤ R.frames ∧ 8 + (8 + 11) + rm.locals ≤ R.locals) : CallW R s args "ScaleShop" RX7 175 yX7_pull cX7_pull 8 none (.code yX7_pull cX7_pull 8 none :: ws0) rm mc ms 4 := cwV 4 hts (zz_gV mw_891 mw_892 mw_893 mw_102 mc_yX7_pull) rfl hrc hrs (by decide +kernel) hR
theorem csV_122 {R : Room} {s : State} {args : Array Value} {rm : Room} {mc ms : Nat} (hts : ∀ w ∈ ws0, w.before args s = true) (hrc : rm.cells = mc) (hrs : rm.slots = ms) (hR : rm.frames + 1 ≤ R.frames ∧ 8 + (3 + 11) + rm.locals ≤ R.locals) : CallW R s args "ScaleShop" RX8 410 yX8_houseThere cX8_houseThere 3 (some (.object "ScaleShop$Row")) (.code yX8_houseThere cX8_houseThere 3 (some (.object "ScaleShop$Row")) :: ws0) rm mc ms 1 := cwV 1 hts (zz_gV mw_983 mw_984 mw_985 mw_100 mc_yX8_houseThere) rfl hrc hrs (by decide +kernel) hR
theorem csV_123 {R : Room} {s : State} {args : Array Value} {rm : Room} {mc ms : Nat} (hts : ∀ w ∈ ws0, w.before args s = true) (hrc : rm.cells = mc) (hrs : rm.slots = ms) (hR : rm.frames + 1 ≤ R.frames ∧ 8 + (4 + 11) + rm.locals ≤ R.locals) : CallW R s args "ScaleShop" RX7 191 yX7_doubleArea cX7_doubleArea 4 (some .int) (.code yX7_doubleArea cX7_doubleArea 4 (some .int) :: ws0) rm mc ms 0 := cwV 0 hts (zz_gV mw_917 mw_918 mw_919 mw_102 mc_yX7_doubleArea) rfl hrc hrs (by decide +kernel) hR
theorem csV_124 {R : Room} {s : State} {args : Array Value} {rm : Room} {mc ms : Nat} (hts : ∀ w ∈ ws0, w.before args s = true) (hrc : rm.cells = mc) (hrs : rm.slots = ms) (hR : rm.frames + 1 ≤ R.frames ∧ 8 + (4 + 11) + rm.locals ≤ R.locals) : CallW R s args "ScaleShop" RX10 227 yX10_isSmallHouse cX10_isSmallHouse 4 (some .boolean) (.code yX10_isSmallHouse cX10_isSmallHouse 4 (some .boolean) :: ws0) rm mc ms 2 := cwV 2 hts (zz_gV mw_979 mw_981 mw_27 mw_99 mc_yX10_isSmallHouse) rfl hrc hrs (by decide +kernel) hR
theorem csV_125 {R : Room} {s : State} {args : Array Value} {rm : Room} {mc ms : Nat} (hts : ∀ w ∈ ws0, w.before args s = true) (hrc : rm.cells = mc) (hrs : rm.slots = ms) (hR : rm.frames + 1 ≤ R.frames ∧ 8 + (9 + 11) + rm.locals ≤ R.locals) : CallW R s args "ScaleShop" RX10 230 yX10_rankInTown cX10_rankInTown 9 (some .int) (.code yX10_rankInTown cX10_rankInTown 9 (some .int) :: ws0) rm mc ms 1 := cwV 1 hts (zz_gV mw_988 mw_990 mw_28 mw_99 mc_yX10_rankInTown) rfl hrc hrs (by decide +kernel) hR
theorem csV_126 {R : Room} {s : State} {args : Array Value} {rm : Room} {mc ms : Nat} (hts : ∀ w ∈ ws0, w.before args s = true) (hrc : rm.cells = mc) (hrs : rm.slots = ms) (hR : rm.frames + 1 ≤ R.frames ∧ 8 + (2 + 11) + rm.locals ≤ R.locals) : CallW R s args "ScaleShop" RX7 406 yX7_copy cX7_copy 2 (some (.object "ScaleShop$Row")) (.code yX7_copy cX7_copy 2 (some (.object "ScaleShop$Row")) :: ws0) rm mc ms 0 := cwV 0 hts (zz_gV mw_966 mw_745 mw_746 mw_102 mc_yX7_copy) rfl hrc hrs (by decide +kernel) hR
theorem csV_127 {R : Room} {s : State} {args : Array Value} {rm : Room} {mc ms : Nat} (hts : ∀ w ∈ ws0, w.before args s = true) (hrc : rm.cells = mc) (hrs : rm.slots = ms) (hR : rm.frames + 1 ≤ R.frames ∧ 8 + (4 + 11) + rm.locals ≤ R.locals) : CallW R s args "ScaleShop" RX3 202 yX3_between cX3_between 4 none (.code yX3_between cX3_between 4 none :: ws0) rm mc ms 2 := cwV 2 hts (zz_gV mw_925 mw_926 mw_927 mw_106 mc_yX3_between) rfl hrc hrs (by decide +kernel) hR
theorem csV_128 {R : Room} {s : State} {args : Array Value} {rm : Room} {mc ms : Nat} (hts : ∀ w ∈ ws0, w.before args s = true) (hrc : rm.cells = mc) (hrs : rm.slots = ms) (hR : rm.frames + 1 ≤ R.frames ∧ 8 + (2 + 11) + rm.locals ≤ R.locals) : CallW R s args "ScaleShop" RX3 206 yX3_isOver cX3_isOver 2 (some .boolean) (.code yX3_isOver cX3_isOver 2 (some .boolean) :: ws0) rm mc ms 1 := cwV 1 hts (zz_gV mw_953 mw_954 mw_955 mw_106 mc_yX3_isOver) rfl hrc hrs (by decide +kernel) hR
theorem csV_129 {R : Room} {s : State} {args : Array Value} {rm : Room} {mc ms : Nat} (hts : ∀ w ∈ ws0, w.before args s = true) (hrc : rm.cells = mc) (hrs : rm.slots = ms) (hR : rm.frames + 1 ≤ R.frames ∧ 8 + (2 + 11) + rm.locals ≤ R.locals) : CallW R s args "ScaleShop" RX0 184 yX0_cover cX0_cover 2 none (.code yX0_cover cX0_cover 2 none :: ws0) rm mc ms 1 := cwV 1 hts (zz_gV mw_912 mw_656 mw_657 mw_104 mc_yX0_cover) rfl hrc hrs (by decide +kernel) hR
theorem csV_130 {R : Room} {s : State} {args : Array Value} {rm : Room} {mc ms : Nat} (hts : ∀ w ∈ ws0, w.before args s = true) (hrc : rm.cells = mc) (hrs : rm.slots = ms) (hR : rm.frames + 1 ≤ R.frames ∧ 8 + (3 + 11) + rm.locals ≤ R.locals) : CallW R s args "ScaleShop" RX0 209 yX0_stretch cX0_stretch 3 none (.code yX0_stretch cX0_stretch 3 none :: ws0) rm mc ms 1 := cwV 1 hts (zz_gV mw_957 mw_661 mw_662 mw_104 mc_yX0_stretch) rfl hrc hrs (by decide +kernel) hR
theorem csV_131 {R : Room} {s : State} {args : Array Value} {rm : Room} {mc ms : Nat} (hts : ∀ w ∈ ws0, w.before args s = true) (hrc : rm.cells = mc) (hrs : rm.slots = ms) (hR : rm.frames + 1 ≤ R.frames ∧ 8 + (2 + 11) + rm.locals ≤ R.locals) : CallW R s args "ScaleShop" RX7 187 yX7_boxFrom cX7_boxFrom 2 none (.code yX7_boxFrom cX7_boxFrom 2 none :: ws0) rm mc ms 1 := cwV 1 hts (zz_gV mw_913 mw_914 mw_915 mw_102 mc_yX7_boxFrom) rfl hrc hrs (by decide +kernel) hR
theorem csV_132 {R : Room} {s : State} {args : Array Value} {rm : Room} {mc ms : Nat} (hts : ∀ w ∈ ws0, w.before args s = true) (hrc : rm.cells = mc) (hrs : rm.slots = ms) (hR : rm.frames + 1 ≤ R.frames ∧ 8 + (6 + 11) + rm.locals ≤ R.locals) : CallW R s args "ScaleShop" RX4 212 yX4_isFreeFor cX4_isFreeFor 6 (some .boolean) (.code yX4_isFreeFor cX4_isFreeFor 6 (some .boolean) :: ws0) rm mc ms 3 := cwV 3 hts (zz_gV mw_958 mw_959 mw_960 mw_101 mc_yX4_isFreeFor) rfl hrc hrs (by decide +kernel) hR
theorem csV_133 {R : Room} {s : State} {args : Array Value} {rm : Room} {mc ms : Nat} (hts : ∀ w ∈ ws0, w.before args s = true) (hrc : rm.cells = mc) (hrs : rm.slots = ms) (hR : rm.frames + 1 ≤ R.frames ∧ 8 + (7 + 11) + rm.locals ≤ R.locals) : CallW R s args "ScaleShop" RX10 216 yX10_unite cX10_unite 7 (some .int) (.code yX10_unite cX10_unite 7 (some .int) :: ws0) rm mc ms 4 := cwV 4 hts (zz_gV mw_962 mw_964 mw_26 mw_99 mc_yX10_unite) rfl hrc hrs (by decide +kernel) hR
theorem csV_134 {R : Room} {s : State} {args : Array Value} {rm : Room} {mc ms : Nat} (hts : ∀ w ∈ ws0, w.before args s = true) (hrc : rm.cells = mc) (hrs : rm.slots = ms) (hR : rm.frames + 1 ≤ R.frames ∧ 8 + (5 + 11) + rm.locals ≤ R.locals) : CallW R s args "ScaleShop$Roads" RX6 80 yX6_setEnd cX6_setEnd 5 none (.code yX6_setEnd cX6_setEnd 5 none :: ws0) rm mc ms 3 := cwV 3 hts (zz_gV mw_1010 mw_1012 mw_30 mw_105 mc_yX6_setEnd) rfl hrc hrs (by decide +kernel) hR
theorem csV_135 {R : Room} {s : State} {args : Array Value} {rm : Room} {mc ms : Nat} (hts : ∀ w ∈ ws0, w.before args s = true) (hrc : rm.cells = mc) (hrs : rm.slots = ms) (hR : rm.frames + 1 ≤ R.frames ∧ 8 + (2 + 11) + rm.locals ≤ R.locals) : CallW R s args "ScaleShop$Roads" RX8 39 yX8_find cX8_find 2 (some (.object "ScaleShop$Feature")) (.code yX8_find cX8_find 2 (some (.object "ScaleShop$Feature")) :: ws0) rm mc ms 1 := cwV 1 hts (zz_gV mw_1000 mw_499 mw_500 mw_100 mc_yX8_find) rfl hrc hrs (by decide +kernel) hR
theorem csV_136 {R : Room} {s : State} {args : Array Value} {rm : Room} {mc ms : Nat} (hts : ∀ w ∈ ws0, w.before args s = true) (hrc : rm.cells = mc) (hrs : rm.slots = ms) (hR : rm.frames + 1 ≤ R.frames ∧ 8 + (3 + 11) + rm.locals ≤ R.locals) : CallW R s args "ScaleShop$Roads" RX8 43 yX8_rowThere cX8_rowThere 3 (some (.object "ScaleShop$Row")) (.code yX8_rowThere cX8_rowThere 3 (some (.object "ScaleShop$Row")) :: ws0) rm mc ms 1 := cwV 1 hts (zz_gV mw_1001 mw_613 mw_614 mw_100 mc_yX8_rowThere) rfl hrc hrs (by decide +kernel) hR
theorem csV_137 {R : Room} {s : State} {args : Array Value} {rm : Room} {mc ms : Nat} (hts : ∀ w ∈ ws0, w.before args s = true) (hrc : rm.cells = mc) (hrs : rm.slots = ms) (hR : rm.frames + 1 ≤ R.frames ∧ 8 + (3 + 11) + rm.locals ≤ R.locals) : CallW R s args "ScaleShop$Roads" RX7 59 yX7_length cX7_length 3 (some .int) (.code yX7_length cX7_length 3 (some .int) :: ws0) rm mc ms 0 := cwV 0 hts (zz_gV mw_1002 mw_1003 mw_1004 mw_102 mc_yX7_length) rfl hrc hrs (by decide +kernel) hR
theorem csV_138 {R : Room} {s : State} {args : Array Value} {rm : Room} {mc ms : Nat} (hts : ∀ w ∈ ws0, w.before args s = true) (hrc : rm.cells = mc) (hrs : rm.slots = ms) (hR : rm.frames + 1 ≤ R.frames ∧ 8 + (5 + 11) + rm.locals ≤ R.locals) : CallW R s args "ScaleShop$Roads" RX6 65 yX6_insert cX6_insert 5 none (.code yX6_insert cX6_insert 5 none :: ws0) rm mc ms 2 := cwV 2 hts (zz_gV mw_1006 mw_1008 mw_29 mw_105 mc_yX6_insert) rfl hrc hrs (by decide +kernel) hR
theorem csV_139 {R : Room} {s : State} {args : Array Value} {rm : Room} {mc ms : Nat} (hts : ∀ w ∈ ws0, w.before args s = true) (hrc : rm.cells = mc) (hrs : rm.slots = ms) (hR : rm.frames + 1 ≤ R.frames ∧ 8 + (4 + 11) + rm.locals ≤ R.locals) : CallW R s args "ScaleShop$Roads" RX6 84 yX6_uniteGroups cX6_uniteGroups 4 none (.code yX6_uniteGroups cX6_uniteGroups 4 none :: ws0) rm mc ms 2 := cwV 2 hts (zz_gV mw_1018 mw_1020 mw_31 mw_105 mc_yX6_uniteGroups) rfl hrc hrs (by decide +kernel) hR
theorem csV_140 {R : Room} {s : State} {args : Array Value} {rm : Room} {mc ms : Nat} (hts : ∀ w ∈ ws0, w.before args s = true) (hrc : rm.cells = mc) (hrs : rm.slots = ms) (hR : rm.frames + 1 ≤ R.frames ∧ 8 + (2 + 11) + rm.locals ≤ R.locals) : CallW R s args "ScaleShop$Roads" RX2 88 yX2_leave cX2_leave 2 none (.code yX2_leave cX2_leave 2 none :: ws0) rm mc ms 1 := cwV 1 hts (zz_gV mw_1022 mw_968 mw_969 mw_111 mc_yX2_leave) rfl hrc hrs (by decide +kernel) hR
theorem csV_141 {R : Room} {s : State} {args : Array Value} {rm : Room} {mc ms : Nat} (hts : ∀ w ∈ ws0, w.before args s = true) (hrc : rm.cells = mc) (hrs : rm.slots = ms) (hR : rm.frames + 1 ≤ R.frames ∧ 8 + (5 + 11) + rm.locals ≤ R.locals) : CallW R s args "ScaleShop" RX6 233 yX6_gather cX6_gather 5 none (.code yX6_gather cX6_gather 5 none :: ws0) rm mc ms 1 := cwV 1 hts (zz_gV mw_996 mw_997 mw_998 mw_105 mc_yX6_gather) rfl hrc hrs (by decide +kernel) hR
theorem csV_142 {R : Room} {s : State} {args : Array Value} {rm : Room} {mc ms : Nat} (hts : ∀ w ∈ ws0, w.before args s = true) (hrc : rm.cells = mc) (hrs : rm.slots = ms) (hR : rm.frames + 1 ≤ R.frames ∧ 8 + (6 + 11) + rm.locals ≤ R.locals) : CallW R s args "ScaleShop" RX6 237 yX6_leaveOut cX6_leaveOut 6 (some .int) (.code yX6_leaveOut cX6_leaveOut 6 (some .int) :: ws0) rm mc ms 1 := cwV 1 hts (zz_gV mw_1014 mw_1015 mw_1016 mw_105 mc_yX6_leaveOut) rfl hrc hrs (by decide +kernel) hR
theorem csV_143 {R : Room} {s : State} {args : Array Value} {rm : Room} {mc ms : Nat} (hts : ∀ w ∈ ws0, w.before args s = true) (hrc : rm.cells = mc) (hrs : rm.slots = ms) (hR : rm.frames + 1 ≤ R.frames ∧ 8 + (4 + 11) + rm.locals ≤ R.locals) : CallW R s args "ScaleShop" RX7 178 yX7_carry cX7_carry 4 none (.code yX7_carry cX7_carry 4 none :: ws0) rm mc ms 2 := cwV 2 hts (zz_gV mw_896 mw_897 mw_898 mw_102 mc_yX7_carry) rfl hrc hrs (by decide +kernel) hR
theorem csV_144 {R : Room} {s : State} {args : Array Value} {rm : Room} {mc ms : Nat} (hts : ∀ w ∈ ws0, w.before args s = true) (hrc : rm.cells = mc) (hrs : rm.slots = ms) (hR : rm.frames + 1 ≤ R.frames ∧ 8 + (3 + 11) + rm.locals ≤ R.locals) : CallW R s args "ScaleShop" RX8 240 yX8_rowThere cX8_rowThere 3 (some (.object "ScaleShop$Row")) (.code yX8_rowThere cX8_rowThere 3 (some (.object "ScaleShop$Row")) :: ws0) rm mc ms 1 := cwV 1 hts (zz_gV mw_1027 mw_613 mw_614 mw_100 mc_yX8_rowThere) rfl hrc hrs (by decide +kernel) hR
theorem csV_145 {R : Room} {s : State} {args : Array Value} {rm : Room} {mc ms : Nat} (hts : ∀ w ∈ ws0, w.before args s = true) (hrc : rm.cells = mc) (hrs : rm.slots = ms) (hR : rm.frames + 1 ≤ R.frames ∧ 8 + (7 + 11) + rm.locals ≤ R.locals) : CallW R s args "ScaleShop" RX7 274 yX7_where cX7_where 7 (some .int) (.code yX7_where cX7_where 7 (some .int) :: ws0) rm mc ms 2 := cwV 2 hts (zz_gV mw_1066 mw_688 mw_689 mw_102 mc_yX7_where) rfl hrc hrs (by decide +kernel) hR
theorem csV_146 {R : Room} {s : State} {args : Array Value} {rm : Room} {mc ms : Nat} (hts : ∀ w ∈ ws0, w.before args s = true) (hrc : rm.cells = mc) (hrs : rm.slots = ms) (hR : rm.frames + 1 ≤ R.frames ∧ 8 + (3 + 11) + rm.locals ≤ R.locals) : CallW R s args "ScaleShop" RX7 330 yX7_length cX7_length 3 (some .int) (.code yX7_length cX7_length 3 (some .int) :: ws0) rm mc ms 0 := cwV 0 hts (zz_gV mw_1120 mw_1003 mw_1004 mw_102 mc_yX7_length) rfl hrc hrs (by decide +kernel) hR
theorem csV_147 {R : Room} {s : State} {args : Array Value} {rm : Room} {mc ms : Nat} (hts : ∀ w ∈ ws0, w.before args s = true) (hrc : rm.cells = mc) (hrs : rm.slots = ms) (hR : rm.frames + 1 ≤ R.frames ∧ 8 + (5 + 11) + rm.locals ≤ R.locals) : CallW R s args "ScaleShop" RX8 363 yX8_inState cX8_inState 5 (some .int) (.code yX8_inState cX8_inState 5 (some .int) :: ws0) rm mc ms 1 := cwV 1 hts (zz_gV mw_1137 mw_1138 mw_1139 mw_100 mc_yX8_inState) rfl hrc hrs (by decide +kernel) hR
theorem csV_148 {R : Room} {s : State} {args : Array Value} {rm : Room} {mc ms : Nat} (hts : ∀ w ∈ ws0, w.before args s = true) (hrc : rm.cells = mc) (hrs : rm.slots = ms) (hR : rm.frames + 1 ≤ R.frames ∧ 8 + (4 + 11) + rm.locals ≤ R.locals) : CallW R s args "ScaleShop" RX8 366 yX8_torn cX8_torn 4 (some .int) (.code yX8_torn cX8_torn 4 (some .int) :: ws0) rm mc ms 0 := cwV 0 hts (zz_gV mw_1141 mw_1142 mw_1143 mw_100 mc_yX8_torn) rfl hrc hrs (by decide +kernel) hR
theorem csV_149 {R : Room} {s : State} {args : Array Value} {rm : Room} {mc ms : Nat} (hts : ∀ w ∈ ws0, w.before args s = true) (hrc : rm.cells = mc) (hrs : rm.slots = ms) (hR : rm.frames + 1 ≤ R.frames ∧ 8 + (4 + 11) + rm.locals ≤ R.locals) : CallW R s args "ScaleShop" RX8 369 yX8_cornersThere cX8_cornersThere 4 (some .int) (.code yX8_cornersThere cX8_cornersThere 4 (some .int) :: ws0) rm mc ms 0 := cwV 0 hts (zz_gV mw_1145 mw_1146 mw_1147 mw_100 mc_yX8_cornersThere) rfl hrc hrs (by decide +kernel) hR
theorem csV_150 {R : Room} {s : State} {args : Array Value} {rm : Room} {mc ms : Nat} (hts : ∀ w ∈ ws0, w.before args s = true) (hrc : rm.cells = mc) (hrs : rm.slots = ms) (hR : rm.frames + 1 ≤ R.frames ∧ 8 + (1 + 11) + rm.locals ≤ R.locals) : CallW R s args "ScaleShop" RX7 278 yX7_edges cX7_edges 1 (some .int) (.code yX7_edges cX7_edges 1 (some .int) :: ws0) rm mc ms 0 := cwV 0 hts (zz_gV mw_1071 mw_529 mw_530 mw_102 mc_yX7_edges) rfl hrc hrs (by decide +kernel) hR
theorem csV_151 {R : Room} {s : State} {args : Array Value} {rm : Room} {mc ms : Nat} (hts : ∀ w ∈ ws0, w.before args s = true) (hrc : rm.cells = mc) (hrs : rm.slots = ms) (hR : rm.frames + 1 ≤ R.frames ∧ 8 + (5 + 11) + rm.locals ≤ R.locals) : CallW R s args "ScaleShop" RX7 281 yX7_turn cX7_turn 5 (some .int) (.code yX7_turn cX7_turn 5 (some .int) :: ws0) rm mc ms 3 := cwV 3 hts (zz_gV mw_1072 mw_585 mw_586 mw_102 mc_yX7_turn) rfl hrc hrs (by decide +kernel) hR
theorem csV_152 {R : Room} {s : State} {args : Array Value} {rm : Room} {mc ms : Nat} (hts : ∀ w ∈ ws0, w.before args s = true) (hrc : rm.cells = mc) (hrs : rm.slots = ms) (hR : rm.frames + 1 ≤ R.frames ∧ 8 + (5 + 11) + rm.locals ≤ R.locals) : CallW R s args "ScaleShop" RX3 295 yX3_become cX3_become 5 none (.code yX3_become cX3_become 5 none :: ws0) rm mc ms 2 := cwV 2 hts (zz_gV mw_1109 mw_931 mw_932 mw_106 mc_yX3_become) rfl hrc hrs (by decide +kernel) hR
theorem csV_153 {R : Room} {s : State} {args : Array Value} {rm : Room} {mc ms : Nat} (hts : ∀ w ∈ ws0, w.before args s = true) (hrc : rm.cells = mc) (hrs : rm.slots = ms) (hR : rm.frames + 1 ≤ R.frames ∧ 8 + (9 + 11) + rm.locals ≤ R.locals) : CallW R s args "ScaleShop" RX3 287 yX3_reduced cX3_reduced 9 (some .long) (.code yX3_reduced cX3_reduced 9 (some .long) :: ws0) rm mc ms 1 := cwV 1 hts (zz_gV mw_1078 mw_1079 mw_1080 mw_106 mc_yX3_reduced) rfl hrc hrs (by decide +kernel) hR
theorem csV_154 {R : Room} {s : State} {args : Array Value} {rm : Room} {mc ms : Nat} (hts : ∀ w ∈ ws0, w.before args s = true) (hrc : rm.cells = mc) (hrs : rm.slots = ms) (hR : rm.frames + 1 ≤ R.frames ∧ 8 + (1 + 11) + rm.locals ≤ R.locals) : CallW R s args "ScaleShop" RX3 305 yX3_clear cX3_clear 1 none (.code yX3_clear cX3_clear 1 none :: ws0) rm mc ms 0 := cwV 0 hts (zz_gV mw_1110 mw_935 mw_936 mw_106 mc_yX3_clear) rfl hrc hrs (by decide +kernel) hR
theorem csV_155 {R : Room} {s : State} {args : Array Value} {rm : Room} {mc ms : Nat} (hts : ∀ w ∈ ws0, w.before args s = true) (hrc : rm.cells = mc) (hrs : rm.slots = ms) (hR : rm.frames + 1 ≤ R.frames ∧ 8 + (5 + 11) + rm.locals ≤ R.locals) : CallW R s args "ScaleShop" RX3 315 yX3_offerFrom cX3_offerFrom 5 none (.code yX3_offerFrom cX3_offerFrom 5 none :: ws0) rm mc ms 3 := cwV 3 hts (zz_gV mw_1111 mw_939 mw_940 mw_106 mc_yX3_offerFrom) rfl hrc hrs (by decide +kernel) hR
theorem csV_156 {R : Room} {s : State} {args : Array Value} {rm : Room} {mc ms : Nat} (hts : ∀ w ∈ ws0, w.before args s = true) (hrc : rm.cells = mc) (hrs : rm.slots = ms) (hR : rm.frames + 1 ≤ R.frames ∧ 8 + (2 + 11) + rm.locals ≤ R.locals) : CallW R s args "ScaleShop" RX3 319 yX3_isBelow cX3_isBelow 2 (some .boolean) (.code yX3_isBelow cX3_isBelow 2 (some .boolean) :: ws0) rm mc ms 1 := cwV 1 hts (zz_gV mw_1112 mw_1113 mw_1114 mw_106 mc_yX3_isBelow) rfl hrc hrs (by decide +kernel) hR
theorem csV_157 {R : Room} {s : State} {args : Array Value} {rm : Room} {mc ms : Nat} (hts : ∀ w ∈ ws0, w.before args s = true) (hrc : rm.cells = mc) (hrs : rm.slots = ms) (hR : rm.frames + 1 ≤ R.frames ∧ 8 + (4 + 11) + rm.locals ≤ R.locals) : CallW R s args "ScaleShop" RX0 416 yX0_squareApart cX0_squareApart 4 (some .int) (.code yX0_squareApart cX0_squareApart 4 (some .int) :: ws0) rm mc ms 1 := cwV 1 hts (zz_gV mw_1094 mw_671 mw_672 mw_104 mc_yX0_squareApart) rfl hrc hrs (by decide +kernel) hR
theorem csV_158 {R : Room} {s : State} {args : Array Value} {rm : Room} {mc ms : Nat} (hts : ∀ w ∈ ws0, w.before args s = true) (hrc : rm.cells = mc) (hrs : rm.slots = ms) (hR : rm.frames + 1 ≤ R.frames ∧ 8 + (2 + 11) + rm.locals ≤ R.locals) : CallW R s args "ScaleShop" RX3 420 yX3_isHalfBelow cX3_isHalfBelow 2 (some .boolean) (.code yX3_isHalfBelow cX3_isHalfBelow 2 (some .boolean) :: ws0) rm mc ms 1 := cwV 1 hts (zz_gV mw_1095 mw_1096 mw_1097 mw_106 mc_yX3_isHalfBelow) rfl hrc hrs (by decide +kernel) hR
theorem csV_159 {R : Room} {s : State} {args : Array Value} {rm : Room} {mc ms : Nat} (hts : ∀ w ∈ ws0, w.before args s = true) (hrc : rm.cells = mc) (hrs : rm.slots = ms) (hR : rm.frames + 1 ≤ R.frames ∧ 8 + (9 + 11) + rm.locals ≤ R.locals) : CallW R s args "ScaleShop" RX10 413 yX10_isClash cX10_isClash 9 (some .boolean) (.code yX10_isClash cX10_isClash 9 (some .boolean) :: ws0) rm mc ms 3 := cwV 3 hts (zz_gV mw_1090 mw_1092 mw_33 mw_99 mc_yX10_isClash) rfl hrc hrs (by decide +kernel) hR
theorem csV_160 {R : Room} {s : State} {args : Array Value} {rm : Room} {mc ms : Nat} (hts : ∀ w ∈ ws0, w.before args s = true) (hrc : rm.cells = mc) (hrs : rm.slots = ms) (hR : rm.frames + 1 ≤ R.frames ∧ 8 + (7 + 11) + rm.locals ≤ R.locals) : CallW R s args "ScaleShop" RX10 291 yX10_nextClash cX10_nextClash 7 (some .int) (.code yX10_nextClash cX10_nextClash 7 (some .int) :: ws0) rm mc ms 2 := cwV 2 hts (zz_gV mw_1086 mw_1088 mw_32 mw_99 mc_yX10_nextClash) rfl hrc hrs (by decide +kernel) hR
theorem csV_161 {R : Room} {s : State} {args : Array Value} {rm : Room} {mc ms : Nat} (hts : ∀ w ∈ ws0, w.before args s = true) (hrc : rm.cells = mc) (hrs : rm.slots = ms) (hR : rm.frames + 1 ≤ R.frames ∧ 8 + (6 + 11) + rm.locals ≤ R.locals) : CallW R s args "ScaleShop" RX7 266 yX7_touches cX7_touches 6 (some .boolean) (.code yX7_touches cX7_touches 6 (some .boolean) :: ws0) rm mc ms 1 := cwV 1 hts (zz_gV mw_1061 mw_680 mw_681 mw_102 mc_yX7_touches) rfl hrc hrs (by decide +kernel) hR
theorem csS_162 {R : Room} {s : State} {args : Array Value} {rm : Room} {mc ms : Nat} (hts : ∀ w ∈ ws0, w.before args s = true) (hrc : rm.cells = mc) (hrs : rm.slots = ms) (hR : rm.frames + 1 ≤ R.frames ∧ 8 + (12 + 11) + rm.locals ≤ R.locals) : CallB R s args "ScaleShopModel" 140 yX11_cross cX11_cross 12 (some .long) (.code yX11_cross cX11_cross 12 (some .long) :: ws0) rm mc ms 6 ∧ (Cond.static yX11_cross).before args s = true := va_cwS 6 hts (zz_gS mw_1381 mw_1382 mw_110 mc_yX11_cross) rfl hrc hrs (by decide +kernel) hR
theorem csS_163 {R : Room} {s : State} {args : Array Value} {rm : Room} {mc ms : Nat} (hts : ∀ w ∈ ws0, w.before args s = true) (hrc : rm.cells = mc) (hrs : rm.slots = ms) (hR : rm.frames + 1 ≤ R.frames ∧ 8 + (2 + 11) + rm.locals ≤ R.locals) : CallB R s args "ScaleShopModel" 153 yX11_signOf cX11_signOf 2 (some .int) (.code yX11_signOf cX11_signOf 2 (some .int) :: ws0) rm mc ms 1 ∧ (Cond.static yX11_signOf).before args s = true := va_cwS 1 hts (zz_gS mw_1391 mw_1392 mw_110 mc_yX11_signOf) rfl hrc hrs (by decide +kernel) hR
theorem csS_164 {R : Room} {s : State} {args : Array Value} {rm : Room} {mc ms : Nat} (hts : ∀ w ∈ ws0, w.before args s = true) (hrc : rm.cells = mc) (hrs : rm.slots = ms) (hR : rm.frames + 1 ≤ R.frames ∧ 8 + (6 + 11) + rm.locals ≤ R.locals) : CallB R s args "ScaleShopModel" 157 yX11_isOn cX11_isOn 6 (some .boolean) (.code yX11_isOn cX11_isOn 6 (some .boolean) :: ws0) rm mc ms 6 ∧ (Cond.static yX11_isOn).before args s = true := va_cwS 6 hts (zz_gS mw_1394 mw_1395 mw_110 mc_yX11_isOn) rfl hrc hrs (by decide +kernel) hR
theorem csV_165 {R : Room} {s : State} {args : Array Value} {rm : Room} {mc ms : Nat} (hts : ∀ w ∈ ws0, w.before args s = true) (hrc : rm.cells = mc) (hrs : rm.slots = ms) (hR : rm.frames + 1 ≤ R.frames ∧ 8 + (2 + 11) + rm.locals ≤ R.locals) : CallW R s args "ScaleShopModel" RX11 161 yX11_isRing cX11_isRing 2 (some .boolean) (.code yX11_isRing cX11_isRing 2 (some .boolean) :: ws0) rm mc ms 1 := cwV 1 hts (zz_gV mw_1365 mw_1367 mw_40 mw_110 mc_yX11_isRing) rfl hrc hrs (by decide +kernel) hR
theorem csV_166 {R : Room} {s : State} {args : Array Value} {rm : Room} {mc ms : Nat} (hts : ∀ w ∈ ws0, w.before args s = true) (hrc : rm.cells = mc) (hrs : rm.slots = ms) (hR : rm.frames + 1 ≤ R.frames ∧ 8 + (2 + 11) + rm.locals ≤ R.locals) : CallW R s args "ScaleShopModel" RX11 164 yX11_edgesOf cX11_edgesOf 2 (some .int) (.code yX11_edgesOf cX11_edgesOf 2 (some .int) :: ws0) rm mc ms 1 := cwV 1 hts (zz_gV mw_1369 mw_1371 mw_41 mw_110 mc_yX11_edgesOf) rfl hrc hrs (by decide +kernel) hR
theorem csV_167 {R : Room} {s : State} {args : Array Value} {rm : Room} {mc ms : Nat} (hts : ∀ w ∈ ws0, w.before args s = true) (hrc : rm.cells = mc) (hrs : rm.slots = ms) (hR : rm.frames + 1 ≤ R.frames ∧ 8 + (6 + 11) + rm.locals ≤ R.locals) : CallW R s args "ScaleShopModel" RX11 167 yX11_edge cX11_edge 6 none (.code yX11_edge cX11_edge 6 none :: ws0) rm mc ms 3 := cwV 3 hts (zz_gV mw_1373 mw_1375 mw_42 mw_110 mc_yX11_edge) rfl hrc hrs (by decide +kernel) hR
theorem csS_168 {R : Room} {s : State} {args : Array Value} {rm : Room} {mc ms : Nat} (hts : ∀ w ∈ ws0, w.before args s = true) (hrc : rm.cells = mc) (hrs : rm.slots = ms) (hR : rm.frames + 1 ≤ R.frames ∧ 8 + (6 + 11) + rm.locals ≤ R.locals) : CallB R s args "ScaleShopModel" 171 yX11_touch cX11_touch 6 (some .boolean) (.code yX11_touch cX11_touch 6 (some .boolean) :: ws0) rm mc ms 1 ∧ (Cond.static yX11_touch).before args s = true := va_cwS 1 hts (zz_gS mw_1388 mw_1389 mw_110 mc_yX11_touch) rfl hrc hrs (by decide +kernel) hR
theorem csV_169 {R : Room} {s : State} {args : Array Value} {rm : Room} {mc ms : Nat} (hts : ∀ w ∈ ws0, w.before args s = true) (hrc : rm.cells = mc) (hrs : rm.slots = ms) (hR : rm.frames + 1 ≤ R.frames ∧ 8 + (5 + 11) + rm.locals ≤ R.locals) : CallW R s args "ScaleShopModel" RX11 175 yX11_isOnSet cX11_isOnSet 5 (some .boolean) (.code yX11_isOnSet cX11_isOnSet 5 (some .boolean) :: ws0) rm mc ms 3 := cwV 3 hts (zz_gV mw_1451 mw_1453 mw_57 mw_110 mc_yX11_isOnSet) rfl hrc hrs (by decide +kernel) hR
theorem csV_170 {R : Room} {s : State} {args : Array Value} {rm : Room} {mc ms : Nat} (hts : ∀ w ∈ ws0, w.before args s = true) (hrc : rm.cells = mc) (hrs : rm.slots = ms) (hR : rm.frames + 1 ≤ R.frames ∧ 8 + (3 + 11) + rm.locals ≤ R.locals) : CallW R s args "ScaleShopModel" RX11 188 yX11_isSquare cX11_isSquare 3 (some .boolean) (.code yX11_isSquare cX11_isSquare 3 (some .boolean) :: ws0) rm mc ms 1 := cwV 1 hts (zz_gV mw_1399 mw_1401 mw_45 mw_110 mc_yX11_isSquare) rfl hrc hrs (by decide +kernel) hR
theorem csV_171 {R : Room} {s : State} {args : Array Value} {rm : Room} {mc ms : Nat} (hts : ∀ w ∈ ws0, w.before args s = true) (hrc : rm.cells = mc) (hrs : rm.slots = ms) (hR : rm.frames + 1 ≤ R.frames ∧ 8 + (4 + 11) + rm.locals ≤ R.locals) : CallW R s args "ScaleShopModel" RX11 185 yX11_meetsEdge cX11_meetsEdge 4 (some .boolean) (.code yX11_meetsEdge cX11_meetsEdge 4 (some .boolean) :: ws0) rm mc ms 3 := cwV 3 hts (zz_gV mw_1384 mw_1386 mw_44 mw_110 mc_yX11_meetsEdge) rfl hrc hrs (by decide +kernel) hR
theorem csV_172 {R : Room} {s : State} {args : Array Value} {rm : Room} {mc ms : Nat} (hts : ∀ w ∈ ws0, w.before args s = true) (hrc : rm.cells = mc) (hrs : rm.slots = ms) (hR : rm.frames + 1 ≤ R.frames ∧ 8 + (6 + 11) + rm.locals ≤ R.locals) : CallW R s args "ScaleShopModel" RX11 182 yX11_folds cX11_folds 6 (some .boolean) (.code yX11_folds cX11_folds 6 (some .boolean) :: ws0) rm mc ms 3 := cwV 3 hts (zz_gV mw_1377 mw_1379 mw_43 mw_110 mc_yX11_folds) rfl hrc hrs (by decide +kernel) hR
theorem csV_173 {R : Room} {s : State} {args : Array Value} {rm : Room} {mc ms : Nat} (hts : ∀ w ∈ ws0, w.before args s = true) (hrc : rm.cells = mc) (hrs : rm.slots = ms) (hR : rm.frames + 1 ≤ R.frames ∧ 8 + (3 + 11) + rm.locals ≤ R.locals) : CallW R s args "ScaleShopModel" RX11 230 yX11_take cX11_take 3 none (.code yX11_take cX11_take 3 none :: ws0) rm mc ms 1 := cwV 1 hts (zz_gV mw_1498 mw_1500 mw_68 mw_110 mc_yX11_take) rfl hrc hrs (by decide +kernel) hR
theorem csV_174 {R : Room} {s : State} {args : Array Value} {rm : Room} {mc ms : Nat} (hts : ∀ w ∈ ws0, w.before args s = true) (hrc : rm.cells = mc) (hrs : rm.slots = ms) (hR : rm.frames + 1 ≤ R.frames ∧ 8 + (8 + 11) + rm.locals ≤ R.locals) : CallW R s args "ScaleShopModel" RX11 234 yX11_isThree cX11_isThree 8 (some .boolean) (.code yX11_isThree cX11_isThree 8 (some .boolean) :: ws0) rm mc ms 7 := cwV 7 hts (zz_gV mw_1502 mw_1504 mw_69 mw_110 mc_yX11_isThree) rfl hrc hrs (by decide +kernel) hR
theorem csS_175 {R : Room} {s : State} {args : Array Value} {rm : Room} {mc ms : Nat} (hts : ∀ w ∈ ws0, w.before args s = true) (hrc : rm.cells = mc) (hrs : rm.slots = ms) (hR : rm.frames + 1 ≤ R.frames ∧ 8 + (6 + 11) + rm.locals ≤ R.locals) : CallB R s args "ScaleShopModel" 226 yX11_isWithin cX11_isWithin 6 (some .boolean) (.code yX11_isWithin cX11_isWithin 6 (some .boolean) :: ws0) rm mc ms 3 ∧ (Cond.static yX11_isWithin).before args s = true := va_cwS 3 hts (zz_gS mw_1491 mw_1492 mw_110 mc_yX11_isWithin) rfl hrc hrs (by decide +kernel) hR
theorem csV_176 {R : Room} {s : State} {args : Array Value} {rm : Room} {mc ms : Nat} (hts : ∀ w ∈ ws0, w.before args s = true) (hrc : rm.cells = mc) (hrs : rm.slots = ms) (hR : rm.frames + 1 ≤ R.frames ∧ 8 + (5 + 11) + rm.locals ≤ R.locals) : CallW R s args "ScaleShopModel" RX11 241 yX11_isAhead cX11_isAhead 5 (some .boolean) (.code yX11_isAhead cX11_isAhead 5 (some .boolean) :: ws0) rm mc ms 4 := cwV 4 hts (zz_gV mw_1514 mw_1516 mw_72 mw_110 mc_yX11_isAhead) rfl hrc hrs (by decide +kernel) hR
theorem csV_177 {R : Room} {s : State} {args : Array Value} {rm : Room} {mc ms : Nat} (hts : ∀ w ∈ ws0, w.before args s = true) (hrc : rm.cells = mc) (hrs : rm.slots = ms) (hR : rm.frames + 1 ≤ R.frames ∧ 8 + (5 + 11) + rm.locals ≤ R.locals) : CallW R s args "ScaleShopModel" RX11 238 yX11_isOnlyAt cX11_isOnlyAt 5 (some .boolean) (.code yX11_isOnlyAt cX11_isOnlyAt 5 (some .boolean) :: ws0) rm mc ms 2 := cwV 2 hts (zz_gV mw_1510 mw_1512 mw_71 mw_110 mc_yX11_isOnlyAt) rfl hrc hrs (by decide +kernel) hR
theorem csV_178 {R : Room} {s : State} {args : Array Value} {rm : Room} {mc ms : Nat} (hts : ∀ w ∈ ws0, w.before args s = true) (hrc : rm.cells = mc) (hrs : rm.slots = ms) (hR : rm.frames + 1 ≤ R.frames ∧ 8 + (2 + 11) + rm.locals ≤ R.locals) : CallW R s args "ScaleShopModel" RX11 133 yX11_isFeature cX11_isFeature 2 (some .boolean) (.code yX11_isFeature cX11_isFeature 2 (some .boolean) :: ws0) rm mc ms 1 := cwV 1 hts (zz_gV mw_1345 mw_1347 mw_37 mw_110 mc_yX11_isFeature) rfl hrc hrs (by decide +kernel) hR
theorem csV_179 {R : Room} {s : State} {args : Array Value} {rm : Room} {mc ms : Nat} (hts : ∀ w ∈ ws0, w.before args s = true) (hrc : rm.cells = mc) (hrs : rm.slots = ms) (hR : rm.frames + 1 ≤ R.frames ∧ 8 + (2 + 11) + rm.locals ≤ R.locals) : CallW R s args "ScaleShopModel" RX11 197 yX11_is cX11_is 2 (some .boolean) (.code yX11_is cX11_is 2 (some .boolean) :: ws0) rm mc ms 1 := cwV 1 hts (zz_gV mw_1447 mw_1449 mw_56 mw_110 mc_yX11_is) rfl hrc hrs (by decide +kernel) hR
theorem csV_180 {R : Room} {s : State} {args : Array Value} {rm : Room} {mc ms : Nat} (hts : ∀ w ∈ ws0, w.before args s = true) (hrc : rm.cells = mc) (hrs : rm.slots = ms) (hR : rm.frames + 1 ≤ R.frames ∧ 8 + (5 + 11) + rm.locals ≤ R.locals) : CallW R s args "ScaleShopModel" RX11 200 yX11_isMet cX11_isMet 5 (some .boolean) (.code yX11_isMet cX11_isMet 5 (some .boolean) :: ws0) rm mc ms 2 := cwV 2 hts (zz_gV mw_1467 mw_1469 mw_61 mw_110 mc_yX11_isMet) rfl hrc hrs (by decide +kernel) hR
theorem csV_181 {R : Room} {s : State} {args : Array Value} {rm : Room} {mc ms : Nat} (hts : ∀ w ∈ ws0, w.before args s = true) (hrc : rm.cells = mc) (hrs : rm.slots = ms) (hR : rm.frames + 1 ≤ R.frames ∧ 8 + (8 + 11) + rm.locals ≤ R.locals) : CallW R s args "ScaleShopModel" RX11 223 yX11_isFreeWay cX11_isFreeWay 8 (some .boolean) (.code yX11_isFreeWay cX11_isFreeWay 8 (some .boolean) :: ws0) rm mc ms 2 := cwV 2 hts (zz_gV mw_1506 mw_1508 mw_70 mw_110 mc_yX11_isFreeWay) rfl hrc hrs (by decide +kernel) hR
theorem csV_182 {R : Room} {s : State} {args : Array Value} {rm : Room} {mc ms : Nat} (hts : ∀ w ∈ ws0, w.before args s = true) (hrc : rm.cells = mc) (hrs : rm.slots = ms) (hR : rm.frames + 1 ≤ R.frames ∧ 8 + (6 + 11) + rm.locals ≤ R.locals) : CallW R s args "ScaleShopModel" RX11 217 yX11_isSweptBy cX11_isSweptBy 6 (some .boolean) (.code yX11_isSweptBy cX11_isSweptBy 6 (some .boolean) :: ws0) rm mc ms 3 := cwV 3 hts (zz_gV mw_1487 mw_1489 mw_66 mw_110 mc_yX11_isSweptBy) rfl hrc hrs (by decide +kernel) hR
theorem csV_183 {R : Room} {s : State} {args : Array Value} {rm : Room} {mc ms : Nat} (hts : ∀ w ∈ ws0, w.before args s = true) (hrc : rm.cells = mc) (hrs : rm.slots = ms) (hR : rm.frames + 1 ≤ R.frames ∧ 8 + (8 + 11) + rm.locals ≤ R.locals) : CallW R s args "ScaleShopModel" RX11 204 yX11_isInside cX11_isInside 8 (some .boolean) (.code yX11_isInside cX11_isInside 8 (some .boolean) :: ws0) rm mc ms 3 := cwV 3 hts (zz_gV mw_1471 mw_1473 mw_62 mw_110 mc_yX11_isInside) rfl hrc hrs (by decide +kernel) hR
theorem csV_184 {R : Room} {s : State} {args : Array Value} {rm : Room} {mc ms : Nat} (hts : ∀ w ∈ ws0, w.before args s = true) (hrc : rm.cells = mc) (hrs : rm.slots = ms) (hR : rm.frames + 1 ≤ R.frames ∧ 8 + (8 + 11) + rm.locals ≤ R.locals) : CallW R s args "ScaleShopModel" RX11 220 yX11_isSwept cX11_isSwept 8 (some .boolean) (.code yX11_isSwept cX11_isSwept 8 (some .boolean) :: ws0) rm mc ms 3 := cwV 3 hts (zz_gV mw_1494 mw_1496 mw_67 mw_110 mc_yX11_isSwept) rfl hrc hrs (by decide +kernel) hR
theorem csV_185 {R : Room} {s : State} {args : Array Value} {rm : Room} {mc ms : Nat} (hts : ∀ w ∈ ws0, w.before args s = true) (hrc : rm.cells = mc) (hrs : rm.slots = ms) (hR : rm.frames + 1 ≤ R.frames ∧ 8 + (2 + 11) + rm.locals ≤ R.locals) : CallW R s args "ScaleShopModel" RX11 126 yX11_refuse cX11_refuse 2 (some .int) (.code yX11_refuse cX11_refuse 2 (some .int) :: ws0) rm mc ms 1 := cwV 1 hts (zz_gV mw_1329 mw_1331 mw_34 mw_110 mc_yX11_refuse) rfl hrc hrs (by decide +kernel) hR
theorem csV_186 {R : Room} {s : State} {args : Array Value} {rm : Room} {mc ms : Nat} (hts : ∀ w ∈ ws0, w.before args s = true) (hrc : rm.cells = mc) (hrs : rm.slots = ms) (hR : rm.frames + 1 ≤ R.frames ∧ 8 + (5 + 11) + rm.locals ≤ R.locals) : CallW R s args "ScaleShopModel" RX11 207 yX11_arePlaces cX11_arePlaces 5 (some .boolean) (.code yX11_arePlaces cX11_arePlaces 5 (some .boolean) :: ws0) rm mc ms 1 := cwV 1 hts (zz_gV mw_1479 mw_1481 mw_64 mw_110 mc_yX11_arePlaces) rfl hrc hrs (by decide +kernel) hR
theorem csV_187 {R : Room} {s : State} {args : Array Value} {rm : Room} {mc ms : Nat} (hts : ∀ w ∈ ws0, w.before args s = true) (hrc : rm.cells = mc) (hrs : rm.slots = ms) (hR : rm.frames + 1 ≤ R.frames ∧ 8 + (8 + 11) + rm.locals ≤ R.locals) : CallW R s args "ScaleShopModel" RX11 210 yX11_isSimple cX11_isSimple 8 (some .boolean) (.code yX11_isSimple cX11_isSimple 8 (some .boolean) :: ws0) rm mc ms 1 := cwV 1 hts (zz_gV mw_1361 mw_1363 mw_39 mw_110 mc_yX11_isSimple) rfl hrc hrs (by decide +kernel) hR
theorem csV_188 {R : Room} {s : State} {args : Array Value} {rm : Room} {mc ms : Nat} (hts : ∀ w ∈ ws0, w.before args s = true) (hrc : rm.cells = mc) (hrs : rm.slots = ms) (hR : rm.frames + 1 ≤ R.frames ∧ 8 + (8 + 11) + rm.locals ≤ R.locals) : CallW R s args "ScaleShopModel" RX11 213 yX11_isLawfulTo cX11_isLawfulTo 8 (some .boolean) (.code yX11_isLawfulTo cX11_isLawfulTo 8 (some .boolean) :: ws0) rm mc ms 4 := cwV 4 hts (zz_gV mw_1483 mw_1485 mw_65 mw_110 mc_yX11_isLawfulTo) rfl hrc hrs (by decide +kernel) hR
theorem csV_189 {R : Room} {s : State} {args : Array Value} {rm : Room} {mc ms : Nat} (hts : ∀ w ∈ ws0, w.before args s = true) (hrc : rm.cells = mc) (hrs : rm.slots = ms) (hR : rm.frames + 1 ≤ R.frames ∧ 8 + (5 + 11) + rm.locals ≤ R.locals) : CallW R s args "ScaleShopModel" RX11 282 yX11_isHeld cX11_isHeld 5 (some .boolean) (.code yX11_isHeld cX11_isHeld 5 (some .boolean) :: ws0) rm mc ms 3 := cwV 3 hts (zz_gV mw_1443 mw_1445 mw_55 mw_110 mc_yX11_isHeld) rfl hrc hrs (by decide +kernel) hR
theorem csV_190 {R : Room} {s : State} {args : Array Value} {rm : Room} {mc ms : Nat} (hts : ∀ w ∈ ws0, w.before args s = true) (hrc : rm.cells = mc) (hrs : rm.slots = ms) (hR : rm.frames + 1 ≤ R.frames ∧ 8 + (4 + 11) + rm.locals ≤ R.locals) : CallW R s args "ScaleShopModel" RX11 285 yX11_remember cX11_remember 4 none (.code yX11_remember cX11_remember 4 none :: ws0) rm mc ms 1 := cwV 1 hts (zz_gV mw_1463 mw_1465 mw_60 mw_110 mc_yX11_remember) rfl hrc hrs (by decide +kernel) hR
theorem csV_191 {R : Room} {s : State} {args : Array Value} {rm : Room} {mc ms : Nat} (hts : ∀ w ∈ ws0, w.before args s = true) (hrc : rm.cells = mc) (hrs : rm.slots = ms) (hR : rm.frames + 1 ≤ R.frames ∧ 8 + (5 + 11) + rm.locals ≤ R.locals) : CallW R s args "ScaleShopModel" RX11 288 yX11_isLawful cX11_isLawful 5 (some .boolean) (.code yX11_isLawful cX11_isLawful 5 (some .boolean) :: ws0) rm mc ms 3 := cwV 3 hts (zz_gV mw_1475 mw_1477 mw_63 mw_110 mc_yX11_isLawful) rfl hrc hrs (by decide +kernel) hR
theorem csV_192 {R : Room} {s : State} {args : Array Value} {rm : Room} {mc ms : Nat} (hts : ∀ w ∈ ws0, w.before args s = true) (hrc : rm.cells = mc) (hrs : rm.slots = ms) (hR : rm.frames + 1 ≤ R.frames ∧ 8 + (3 + 11) + rm.locals ≤ R.locals) : CallW R s args "ScaleShopModel" RX11 291 yX11_forgetNew cX11_forgetNew 3 none (.code yX11_forgetNew cX11_forgetNew 3 none :: ws0) rm mc ms 1 := cwV 1 hts (zz_gV mw_1518 mw_1520 mw_73 mw_110 mc_yX11_forgetNew) rfl hrc hrs (by decide +kernel) hR
theorem csV_193 {R : Room} {s : State} {args : Array Value} {rm : Room} {mc ms : Nat} (hts : ∀ w ∈ ws0, w.before args s = true) (hrc : rm.cells = mc) (hrs : rm.slots = ms) (hR : rm.frames + 1 ≤ R.frames ∧ 8 + (4 + 11) + rm.locals ≤ R.locals) : CallW R s args "ScaleShopModel" RX11 247 yX11_write cX11_write 4 none (.code yX11_write cX11_write 4 none :: ws0) rm mc ms 1 := cwV 1 hts (zz_gV mw_1427 mw_1429 mw_51 mw_110 mc_yX11_write) rfl hrc hrs (by decide +kernel) hR
theorem csV_194 {R : Room} {s : State} {args : Array Value} {rm : Room} {mc ms : Nat} (hts : ∀ w ∈ ws0, w.before args s = true) (hrc : rm.cells = mc) (hrs : rm.slots = ms) (hR : rm.frames + 1 ≤ R.frames ∧ 8 + (1 + 11) + rm.locals ≤ R.locals) : CallW R s args "ScaleShopModel" RX11 253 yX11_next cX11_next 1 (some .int) (.code yX11_next cX11_next 1 (some .int) :: ws0) rm mc ms 0 := cwV 0 hts (zz_gV mw_1653 mw_1655 mw_96 mw_110 mc_yX11_next) rfl hrc hrs (by decide +kernel) hR
theorem csV_195 {R : Room} {s : State} {args : Array Value} {rm : Room} {mc ms : Nat} (hts : ∀ w ∈ ws0, w.before args s = true) (hrc : rm.cells = mc) (hrs : rm.slots = ms) (hR : rm.frames + 1 ≤ R.frames ∧ 8 + (5 + 11) + rm.locals ≤ R.locals) : CallW R s args "ScaleShopModel" RX11 266 yX11_keep cX11_keep 5 none (.code yX11_keep cX11_keep 5 none :: ws0) rm mc ms 1 := cwV 1 hts (zz_gV mw_1423 mw_1425 mw_50 mw_110 mc_yX11_keep) rfl hrc hrs (by decide +kernel) hR
theorem csV_196 {R : Room} {s : State} {args : Array Value} {rm : Room} {mc ms : Nat} (hts : ∀ w ∈ ws0, w.before args s = true) (hrc : rm.cells = mc) (hrs : rm.slots = ms) (hR : rm.frames + 1 ≤ R.frames ∧ 8 + (6 + 11) + rm.locals ≤ R.locals) : CallW R s args "ScaleShopModel" RX11 269 yX11_begin cX11_begin 6 none (.code yX11_begin cX11_begin 6 none :: ws0) rm mc ms 5 := cwV 5 hts (zz_gV mw_1333 mw_1335 mw_35 mw_110 mc_yX11_begin) rfl hrc hrs (by decide +kernel) hR
theorem csV_197 {R : Room} {s : State} {args : Array Value} {rm : Room} {mc ms : Nat} (hts : ∀ w ∈ ws0, w.before args s = true) (hrc : rm.cells = mc) (hrs : rm.slots = ms) (hR : rm.frames + 1 ≤ R.frames ∧ 8 + (1 + 11) + rm.locals ≤ R.locals) : CallW R s args "ScaleShopModel" RX11 273 yX11_settle cX11_settle 1 none (.code yX11_settle cX11_settle 1 none :: ws0) rm mc ms 0 := cwV 0 hts (zz_gV mw_1337 mw_1339 mw_36 mw_110 mc_yX11_settle) rfl hrc hrs (by decide +kernel) hR
theorem csV_198 {R : Room} {s : State} {args : Array Value} {rm : Room} {mc ms : Nat} (hts : ∀ w ∈ ws0, w.before args s = true) (hrc : rm.cells = mc) (hrs : rm.slots = ms) (hR : rm.frames + 1 ≤ R.frames ∧ 8 + (2 + 11) + rm.locals ≤ R.locals) : CallW R s args "ScaleShopModel" RX11 276 yX11_no cX11_no 2 (some .boolean) (.code yX11_no cX11_no 2 (some .boolean) :: ws0) rm mc ms 1 := cwV 1 hts (zz_gV mw_1353 mw_1355 mw_38 mw_110 mc_yX11_no) rfl hrc hrs (by decide +kernel) hR
theorem csV_199 {R : Room} {s : State} {args : Array Value} {rm : Room} {mc ms : Nat} (hts : ∀ w ∈ ws0, w.before args s = true) (hrc : rm.cells = mc) (hrs : rm.slots = ms) (hR : rm.frames + 1 ≤ R.frames ∧ 8 + (5 + 11) + rm.locals ≤ R.locals) : CallW R s args "ScaleShopModel" RX11 419 yX11_restore cX11_restore 5 none (.code yX11_restore cX11_restore 5 none :: ws0) rm mc ms 1 := cwV 1 hts (zz_gV mw_1649 mw_1651 mw_95 mw_110 mc_yX11_restore) rfl hrc hrs (by decide +kernel) hR
theorem csV_200 {R : Room} {s : State} {args : Array Value} {rm : Room} {mc ms : Nat} (hts : ∀ w ∈ ws0, w.before args s = true) (hrc : rm.cells = mc) (hrs : rm.slots = ms) (hR : rm.frames + 1 ≤ R.frames ∧ 8 + (4 + 11) + rm.locals ≤ R.locals) : CallW R s args "ScaleShopModel" RX11 301 yX11_goes cX11_goes 4 (some .boolean) (.code yX11_goes cX11_goes 4 (some .boolean) :: ws0) rm mc ms 2 := cwV 2 hts (zz_gV mw_1459 mw_1461 mw_59 mw_110 mc_yX11_goes) rfl hrc hrs (by decide +kernel) hR
theorem csV_201 {R : Room} {s : State} {args : Array Value} {rm : Room} {mc ms : Nat} (hts : ∀ w ∈ ws0, w.before args s = true) (hrc : rm.cells = mc) (hrs : rm.slots = ms) (hR : rm.frames + 1 ≤ R.frames ∧ 8 + (11 + 11) + rm.locals ≤ R.locals) : CallW R s args "ScaleShopModel" RX11 304 yX11_lose cX11_lose 11 none (.code yX11_lose cX11_lose 11 none :: ws0) rm mc ms 4 := cwV 4 hts (zz_gV mw_1522 mw_1524 mw_74 mw_110 mc_yX11_lose) rfl hrc hrs (by decide +kernel) hR
theorem csV_202 {R : Room} {s : State} {args : Array Value} {rm : Room} {mc ms : Nat} (hts : ∀ w ∈ ws0, w.before args s = true) (hrc : rm.cells = mc) (hrs : rm.slots = ms) (hR : rm.frames + 1 ≤ R.frames ∧ 8 + (9 + 11) + rm.locals ≤ R.locals) : CallW R s args "ScaleShopModel" RX11 297 yX11_triangle cX11_triangle 9 (some .long) (.code yX11_triangle cX11_triangle 9 (some .long) :: ws0) rm mc ms 2 := cwV 2 hts (zz_gV mw_1455 mw_1457 mw_58 mw_110 mc_yX11_triangle) rfl hrc hrs (by decide +kernel) hR
theorem csV_203 {R : Room} {s : State} {args : Array Value} {rm : Room} {mc ms : Nat} (hts : ∀ w ∈ ws0, w.before args s = true) (hrc : rm.cells = mc) (hrs : rm.slots = ms) (hR : rm.frames + 1 ≤ R.frames ∧ 8 + (3 + 11) + rm.locals ≤ R.locals) : CallW R s args "ScaleShopModel" RX11 294 yX11_mayGo cX11_mayGo 3 (some .boolean) (.code yX11_mayGo cX11_mayGo 3 (some .boolean) :: ws0) rm mc ms 2 := cwV 2 hts (zz_gV mw_1439 mw_1441 mw_54 mw_110 mc_yX11_mayGo) rfl hrc hrs (by decide +kernel) hR
theorem csV_204 {R : Room} {s : State} {args : Array Value} {rm : Room} {mc ms : Nat} (hts : ∀ w ∈ ws0, w.before args s = true) (hrc : rm.cells = mc) (hrs : rm.slots = ms) (hR : rm.frames + 1 ≤ R.frames ∧ 8 + (8 + 11) + rm.locals ≤ R.locals) : CallW R s args "ScaleShopModel" RX11 308 yX11_plain cX11_plain 8 (some .boolean) (.code yX11_plain cX11_plain 8 (some .boolean) :: ws0) rm mc ms 3 := cwV 3 hts (zz_gV mw_1435 mw_1437 mw_53 mw_110 mc_yX11_plain) rfl hrc hrs (by decide +kernel) hR
theorem csV_205 {R : Room} {s : State} {args : Array Value} {rm : Room} {mc ms : Nat} (hts : ∀ w ∈ ws0, w.before args s = true) (hrc : rm.cells = mc) (hrs : rm.slots = ms) (hR : rm.frames + 1 ≤ R.frames ∧ 8 + (1 + 11) + rm.locals ≤ R.locals) : CallW R s args "ScaleShopModel" RX11 322 yX11_begins cX11_begins 1 none (.code yX11_begins cX11_begins 1 none :: ws0) rm mc ms 0 := cwV 0 hts (zz_gV mw_1419 mw_1421 mw_49 mw_110 mc_yX11_begins) rfl hrc hrs (by decide +kernel) hR
theorem csV_206 {R : Room} {s : State} {args : Array Value} {rm : Room} {mc ms : Nat} (hts : ∀ w ∈ ws0, w.before args s = true) (hrc : rm.cells = mc) (hrs : rm.slots = ms) (hR : rm.frames + 1 ≤ R.frames ∧ 8 + (3 + 11) + rm.locals ≤ R.locals) : CallW R s args "ScaleShopModel" RX11 334 yX11_give cX11_give 3 none (.code yX11_give cX11_give 3 none :: ws0) rm mc ms 1 := cwV 1 hts (zz_gV mw_1550 mw_1552 mw_79 mw_110 mc_yX11_give) rfl hrc hrs (by decide +kernel) hR
theorem csV_207 {R : Room} {s : State} {args : Array Value} {rm : Room} {mc ms : Nat} (hts : ∀ w ∈ ws0, w.before args s = true) (hrc : rm.cells = mc) (hrs : rm.slots = ms) (hR : rm.frames + 1 ≤ R.frames ∧ 8 + (4 + 11) + rm.locals ≤ R.locals) : CallW R s args "ScaleShopModel" RX11 328 yX11_squeeze cX11_squeeze 4 none (.code yX11_squeeze cX11_squeeze 4 none :: ws0) rm mc ms 1 := cwV 1 hts (zz_gV mw_1526 mw_1528 mw_75 mw_110 mc_yX11_squeeze) rfl hrc hrs (by decide +kernel) hR
theorem csV_208 {R : Room} {s : State} {args : Array Value} {rm : Room} {mc ms : Nat} (hts : ∀ w ∈ ws0, w.before args s = true) (hrc : rm.cells = mc) (hrs : rm.slots = ms) (hR : rm.frames + 1 ≤ R.frames ∧ 8 + (4 + 11) + rm.locals ≤ R.locals) : CallW R s args "ScaleShopModel" RX11 331 yX11_ends cX11_ends 4 (some .int) (.code yX11_ends cX11_ends 4 (some .int) :: ws0) rm mc ms 3 := cwV 3 hts (zz_gV mw_1530 mw_1532 mw_76 mw_110 mc_yX11_ends) rfl hrc hrs (by decide +kernel) hR
theorem csV_209 {R : Room} {s : State} {args : Array Value} {rm : Room} {mc ms : Nat} (hts : ∀ w ∈ ws0, w.before args s = true) (hrc : rm.cells = mc) (hrs : rm.slots = ms) (hR : rm.frames + 1 ≤ R.frames ∧ 8 + (2 + 11) + rm.locals ≤ R.locals) : CallW R s args "ScaleShopModel" RX11 312 yX11_wrong cX11_wrong 2 (some .int) (.code yX11_wrong cX11_wrong 2 (some .int) :: ws0) rm mc ms 1 := cwV 1 hts (zz_gV mw_1407 mw_1409 mw_46 mw_110 mc_yX11_wrong) rfl hrc hrs (by decide +kernel) hR
theorem csV_210 {R : Room} {s : State} {args : Array Value} {rm : Room} {mc ms : Nat} (hts : ∀ w ∈ ws0, w.before args s = true) (hrc : rm.cells = mc) (hrs : rm.slots = ms) (hR : rm.frames + 1 ≤ R.frames ∧ 8 + (2 + 11) + rm.locals ≤ R.locals) : CallW R s args "ScaleShopModel" RX11 315 yX11_isPlainable cX11_isPlainable 2 (some .boolean) (.code yX11_isPlainable cX11_isPlainable 2 (some .boolean) :: ws0) rm mc ms 1 := cwV 1 hts (zz_gV mw_1411 mw_1413 mw_47 mw_110 mc_yX11_isPlainable) rfl hrc hrs (by decide +kernel) hR
theorem csV_211 {R : Room} {s : State} {args : Array Value} {rm : Room} {mc ms : Nat} (hts : ∀ w ∈ ws0, w.before args s = true) (hrc : rm.cells = mc) (hrs : rm.slots = ms) (hR : rm.frames + 1 ≤ R.frames ∧ 8 + (3 + 11) + rm.locals ≤ R.locals) : CallW R s args "ScaleShopModel" RX11 337 yX11_moves cX11_moves 3 (some .boolean) (.code yX11_moves cX11_moves 3 (some .boolean) :: ws0) rm mc ms 1 := cwV 1 hts (zz_gV mw_1542 mw_1544 mw_77 mw_110 mc_yX11_moves) rfl hrc hrs (by decide +kernel) hR
theorem csV_212 {R : Room} {s : State} {args : Array Value} {rm : Room} {mc ms : Nat} (hts : ∀ w ∈ ws0, w.before args s = true) (hrc : rm.cells = mc) (hrs : rm.slots = ms) (hR : rm.frames + 1 ≤ R.frames ∧ 8 + (5 + 11) + rm.locals ≤ R.locals) : CallW R s args "ScaleShopModel" RX11 340 yX11_changes cX11_changes 5 (some .boolean) (.code yX11_changes cX11_changes 5 (some .boolean) :: ws0) rm mc ms 2 := cwV 2 hts (zz_gV mw_1546 mw_1548 mw_78 mw_110 mc_yX11_changes) rfl hrc hrs (by decide +kernel) hR
theorem csV_213 {R : Room} {s : State} {args : Array Value} {rm : Room} {mc ms : Nat} (hts : ∀ w ∈ ws0, w.before args s = true) (hrc : rm.cells = mc) (hrs : rm.slots = ms) (hR : rm.frames + 1 ≤ R.frames ∧ 8 + (3 + 11) + rm.locals ≤ R.locals) : CallW R s args "ScaleShopModel" RX11 393 yX11_gone cX11_gone 3 none (.code yX11_gone cX11_gone 3 none :: ws0) rm mc ms 2 := cwV 2 hts (zz_gV mw_1604 mw_1606 mw_88 mw_110 mc_yX11_gone) rfl hrc hrs (by decide +kernel) hR
theorem csV_214 {R : Room} {s : State} {args : Array Value} {rm : Room} {mc ms : Nat} (hts : ∀ w ∈ ws0, w.before args s = true) (hrc : rm.cells = mc) (hrs : rm.slots = ms) (hR : rm.frames + 1 ≤ R.frames ∧ 8 + (5 + 11) + rm.locals ≤ R.locals) : CallW R s args "ScaleShopModel" RX11 325 yX11_plainAll cX11_plainAll 5 (some .int) (.code yX11_plainAll cX11_plainAll 5 (some .int) :: ws0) rm mc ms 3 := cwV 3 hts (zz_gV mw_1431 mw_1433 mw_52 mw_110 mc_yX11_plainAll) rfl hrc hrs (by decide +kernel) hR
theorem csV_215 {R : Room} {s : State} {args : Array Value} {rm : Room} {mc ms : Nat} (hts : ∀ w ∈ ws0, w.before args s = true) (hrc : rm.cells = mc) (hrs : rm.slots = ms) (hR : rm.frames + 1 ≤ R.frames ∧ 8 + (9 + 11) + rm.locals ≤ R.locals) : CallW R s args "ScaleShopModel" RX11 318 yX11_tell cX11_tell 9 (some .int) (.code yX11_tell cX11_tell 9 (some .int) :: ws0) rm mc ms 3 := cwV 3 hts (zz_gV mw_1415 mw_1417 mw_48 mw_110 mc_yX11_tell) rfl hrc hrs (by decide +kernel) hR
theorem csV_216 {R : Room} {s : State} {args : Array Value} {rm : Room} {mc ms : Nat} (hts : ∀ w ∈ ws0, w.before args s = true) (hrc : rm.cells = mc) (hrs : rm.slots = ms) (hR : rm.frames + 1 ≤ R.frames ∧ 8 + (5 + 11) + rm.locals ≤ R.locals) : CallW R s args "ScaleShopModel" RX11 343 yX11_wayOf cX11_wayOf 5 (some .int) (.code yX11_wayOf cX11_wayOf 5 (some .int) :: ws0) rm mc ms 3 := cwV 3 hts (zz_gV mw_1558 mw_1560 mw_80 mw_110 mc_yX11_wayOf) rfl hrc hrs (by decide +kernel) hR
theorem csV_217 {R : Room} {s : State} {args : Array Value} {rm : Room} {mc ms : Nat} (hts : ∀ w ∈ ws0, w.before args s = true) (hrc : rm.cells = mc) (hrs : rm.slots = ms) (hR : rm.frames + 1 ≤ R.frames ∧ 8 + (9 + 11) + rm.locals ≤ R.locals) : CallW R s args "ScaleShopModel" RX11 378 yX11_isLess cX11_isLess 9 (some .boolean) (.code yX11_isLess cX11_isLess 9 (some .boolean) :: ws0) rm mc ms 4 := cwV 4 hts (zz_gV mw_1596 mw_1598 mw_86 mw_110 mc_yX11_isLess) rfl hrc hrs (by decide +kernel) hR
theorem csV_218 {R : Room} {s : State} {args : Array Value} {rm : Room} {mc ms : Nat} (hts : ∀ w ∈ ws0, w.before args s = true) (hrc : rm.cells = mc) (hrs : rm.slots = ms) (hR : rm.frames + 1 ≤ R.frames ∧ 8 + (5 + 11) + rm.locals ≤ R.locals) : CallW R s args "ScaleShopModel" RX11 364 yX11_area cX11_area 5 (some .long) (.code yX11_area cX11_area 5 (some .long) :: ws0) rm mc ms 1 := cwV 1 hts (zz_gV mw_1576 mw_1578 mw_82 mw_110 mc_yX11_area) rfl hrc hrs (by decide +kernel) hR
theorem csV_219 {R : Room} {s : State} {args : Array Value} {rm : Room} {mc ms : Nat} (hts : ∀ w ∈ ws0, w.before args s = true) (hrc : rm.cells = mc) (hrs : rm.slots = ms) (hR : rm.frames + 1 ≤ R.frames ∧ 8 + (4 + 11) + rm.locals ≤ R.locals) : CallW R s args "ScaleShopModel" RX11 401 yX11_dropMarked cX11_dropMarked 4 (some .int) (.code yX11_dropMarked cX11_dropMarked 4 (some .int) :: ws0) rm mc ms 1 := cwV 1 hts (zz_gV mw_1621 mw_1623 mw_90 mw_110 mc_yX11_dropMarked) rfl hrc hrs (by decide +kernel) hR
theorem csV_220 {R : Room} {s : State} {args : Array Value} {rm : Room} {mc ms : Nat} (hts : ∀ w ∈ ws0, w.before args s = true) (hrc : rm.cells = mc) (hrs : rm.slots = ms) (hR : rm.frames + 1 ≤ R.frames ∧ 8 + (3 + 11) + rm.locals ≤ R.locals) : CallW R s args "ScaleShopModel" RX11 396 yX11_isSmall cX11_isSmall 3 (some .boolean) (.code yX11_isSmall cX11_isSmall 3 (some .boolean) :: ws0) rm mc ms 2 := cwV 2 hts (zz_gV mw_1616 mw_1618 mw_89 mw_110 mc_yX11_isSmall) rfl hrc hrs (by decide +kernel) hR
theorem csV_221 {R : Room} {s : State} {args : Array Value} {rm : Room} {mc ms : Nat} (hts : ∀ w ∈ ws0, w.before args s = true) (hrc : rm.cells = mc) (hrs : rm.slots = ms) (hR : rm.frames + 1 ≤ R.frames ∧ 8 + (7 + 11) + rm.locals ≤ R.locals) : CallW R s args "ScaleShopModel" RX11 358 yX11_box cX11_box 7 none (.code yX11_box cX11_box 7 none :: ws0) rm mc ms 2 := cwV 2 hts (zz_gV mw_1571 mw_1573 mw_81 mw_110 mc_yX11_box) rfl hrc hrs (by decide +kernel) hR
theorem csV_222 {R : Room} {s : State} {args : Array Value} {rm : Room} {mc ms : Nat} (hts : ∀ w ∈ ws0, w.before args s = true) (hrc : rm.cells = mc) (hrs : rm.slots = ms) (hR : rm.frames + 1 ≤ R.frames ∧ 8 + (3 + 11) + rm.locals ≤ R.locals) : CallW R s args "ScaleShopModel" RX11 368 yX11_layBox cX11_layBox 3 none (.code yX11_layBox cX11_layBox 3 none :: ws0) rm mc ms 1 := cwV 1 hts (zz_gV mw_1580 mw_1582 mw_83 mw_110 mc_yX11_layBox) rfl hrc hrs (by decide +kernel) hR
theorem csV_223 {R : Room} {s : State} {args : Array Value} {rm : Room} {mc ms : Nat} (hts : ∀ w ∈ ws0, w.before args s = true) (hrc : rm.cells = mc) (hrs : rm.slots = ms) (hR : rm.frames + 1 ≤ R.frames ∧ 8 + (5 + 11) + rm.locals ≤ R.locals) : CallW R s args "ScaleShopModel" RX11 407 yX11_lengthOf cX11_lengthOf 5 (some .long) (.code yX11_lengthOf cX11_lengthOf 5 (some .long) :: ws0) rm mc ms 1 := cwV 1 hts (zz_gV mw_1637 mw_1639 mw_93 mw_110 mc_yX11_lengthOf) rfl hrc hrs (by decide +kernel) hR
theorem csV_224 {R : Room} {s : State} {args : Array Value} {rm : Room} {mc ms : Nat} (hts : ∀ w ∈ ws0, w.before args s = true) (hrc : rm.cells = mc) (hrs : rm.slots = ms) (hR : rm.frames + 1 ≤ R.frames ∧ 8 + (7 + 11) + rm.locals ≤ R.locals) : CallW R s args "ScaleShopModel" RX11 386 yX11_plainFraction cX11_plainFraction 7 none (.code yX11_plainFraction cX11_plainFraction 7 none :: ws0) rm mc ms 0 := cwV 0 hts (zz_gV mw_1600 mw_1602 mw_87 mw_110 mc_yX11_plainFraction) rfl hrc hrs (by decide +kernel) hR
theorem csV_225 {R : Room} {s : State} {args : Array Value} {rm : Room} {mc ms : Nat} (hts : ∀ w ∈ ws0, w.before args s = true) (hrc : rm.cells = mc) (hrs : rm.slots = ms) (hR : rm.frames + 1 ≤ R.frames ∧ 8 + (23 + 11) + rm.locals ≤ R.locals) : CallW R s args "ScaleShopModel" RX11 382 yX11_nearer cX11_nearer 23 none (.code yX11_nearer cX11_nearer 23 none :: ws0) rm mc ms 4 := cwV 4 hts (zz_gV mw_1592 mw_1594 mw_85 mw_110 mc_yX11_nearer) rfl hrc hrs (by decide +kernel) hR
theorem csV_226 {R : Room} {s : State} {args : Array Value} {rm : Room} {mc ms : Nat} (hts : ∀ w ∈ ws0, w.before args s = true) (hrc : rm.cells = mc) (hrs : rm.slots = ms) (hR : rm.frames + 1 ≤ R.frames ∧ 8 + (5 + 11) + rm.locals ≤ R.locals) : CallW R s args "ScaleShopModel" RX11 389 yX11_distance cX11_distance 5 none (.code yX11_distance cX11_distance 5 none :: ws0) rm mc ms 2 := cwV 2 hts (zz_gV mw_1588 mw_1590 mw_84 mw_110 mc_yX11_distance) rfl hrc hrs (by decide +kernel) hR
theorem csV_227 {R : Room} {s : State} {args : Array Value} {rm : Room} {mc ms : Nat} (hts : ∀ w ∈ ws0, w.before args s = true) (hrc : rm.cells = mc) (hrs : rm.slots = ms) (hR : rm.frames + 1 ≤ R.frames ∧ 8 + (4 + 11) + rm.locals ≤ R.locals) : CallW R s args "ScaleShopModel" RX11 416 yX11_placeOf cX11_placeOf 4 (some .int) (.code yX11_placeOf cX11_placeOf 4 (some .int) :: ws0) rm mc ms 2 := cwV 2 hts (zz_gV mw_1641 mw_1643 mw_94 mw_110 mc_yX11_placeOf) rfl hrc hrs (by decide +kernel) hR
theorem csV_228 {R : Room} {s : State} {args : Array Value} {rm : Room} {mc ms : Nat} (hts : ∀ w ∈ ws0, w.before args s = true) (hrc : rm.cells = mc) (hrs : rm.slots = ms) (hR : rm.frames + 1 ≤ R.frames ∧ 8 + (2 + 11) + rm.locals ≤ R.locals) : CallW R s args "ScaleShopModel" RX11 413 yX11_weight cX11_weight 2 (some .long) (.code yX11_weight cX11_weight 2 (some .long) :: ws0) rm mc ms 1 := cwV 1 hts (zz_gV mw_1633 mw_1635 mw_92 mw_110 mc_yX11_weight) rfl hrc hrs (by decide +kernel) hR
theorem csV_229 {R : Room} {s : State} {args : Array Value} {rm : Room} {mc ms : Nat} (hts : ∀ w ∈ ws0, w.before args s = true) (hrc : rm.cells = mc) (hrs : rm.slots = ms) (hR : rm.frames + 1 ≤ R.frames ∧ 8 + (2 + 11) + rm.locals ≤ R.locals) : CallW R s args "ScaleShopModel" RX11 410 yX11_isRoad cX11_isRoad 2 (some .boolean) (.code yX11_isRoad cX11_isRoad 2 (some .boolean) :: ws0) rm mc ms 1 := cwV 1 hts (zz_gV mw_1629 mw_1631 mw_91 mw_110 mc_yX11_isRoad) rfl hrc hrs (by decide +kernel) hR
theorem csV_230 {R : Room} {s : State} {args : Array Value} {rm : Room} {mc ms : Nat} (hts : ∀ w ∈ ws0, w.before args s = true) (hrc : rm.cells = mc) (hrs : rm.slots = ms) (hR : rm.frames + 1 ≤ R.frames ∧ 8 + (6 + 11) + rm.locals ≤ R.locals) : CallW R s args "ScaleShopModel" RX11 424 yX11_isClash cX11_isClash 6 (some .boolean) (.code yX11_isClash cX11_isClash 6 (some .boolean) :: ws0) rm mc ms 3 := cwV 3 hts (zz_gV mw_1681 mw_1683 mw_97 mw_110 mc_yX11_isClash) rfl hrc hrs (by decide +kernel) hR
theorem csV_231 {R : Room} {s : State} {args : Array Value} {rm : Room} {mc ms : Nat} (hts : ∀ w ∈ ws0, w.before args s = true) (hrc : rm.cells = mc) (hrs : rm.slots = ms) (hR : rm.frames + 1 ≤ R.frames ∧ 8 + (6 + 11) + rm.locals ≤ R.locals) : CallW R s args "ScaleShopLaw" RX10 18 yX10_corner cX10_corner 6 (some .int) (.code yX10_corner cX10_corner 6 (some .int) :: ws0) rm mc ms 3 := cwV 3 hts (zz_gV mw_494 mw_495 mw_496 mw_99 mc_yX10_corner) rfl hrc hrs (by decide +kernel) hR
theorem csV_232 {R : Room} {s : State} {args : Array Value} {rm : Room} {mc ms : Nat} (hts : ∀ w ∈ ws0, w.before args s = true) (hrc : rm.cells = mc) (hrs : rm.slots = ms) (hR : rm.frames + 1 ≤ R.frames ∧ 8 + (4 + 11) + rm.locals ≤ R.locals) : CallW R s args "ScaleShopLaw" RX11 22 yX11_corner cX11_corner 4 (some .int) (.code yX11_corner cX11_corner 4 (some .int) :: ws0) rm mc ms 3 := cwV 3 hts (zz_gV mw_1341 mw_1342 mw_1343 mw_110 mc_yX11_corner) rfl hrc hrs (by decide +kernel) hR
theorem csV_233 {R : Room} {s : State} {args : Array Value} {rm : Room} {mc ms : Nat} (hts : ∀ w ∈ ws0, w.before args s = true) (hrc : rm.cells = mc) (hrs : rm.slots = ms) (hR : rm.frames + 1 ≤ R.frames ∧ 8 + (3 + 11) + rm.locals ≤ R.locals) : CallW R s args "ScaleShopLaw" RX10 23 yX10_tear cX10_tear 3 (some .boolean) (.code yX10_tear cX10_tear 3 (some .boolean) :: ws0) rm mc ms 1 := cwV 1 hts (zz_gV mw_509 mw_510 mw_511 mw_99 mc_yX10_tear) rfl hrc hrs (by decide +kernel) hR
theorem csV_234 {R : Room} {s : State} {args : Array Value} {rm : Room} {mc ms : Nat} (hts : ∀ w ∈ ws0, w.before args s = true) (hrc : rm.cells = mc) (hrs : rm.slots = ms) (hR : rm.frames + 1 ≤ R.frames ∧ 8 + (2 + 11) + rm.locals ≤ R.locals) : CallW R s args "ScaleShopLaw" RX11 27 yX11_tear cX11_tear 2 (some .boolean) (.code yX11_tear cX11_tear 2 (some .boolean) :: ws0) rm mc ms 1 := cwV 1 hts (zz_gV mw_1349 mw_1350 mw_1351 mw_110 mc_yX11_tear) rfl hrc hrs (by decide +kernel) hR
theorem csV_235 {R : Room} {s : State} {args : Array Value} {rm : Room} {mc ms : Nat} (hts : ∀ w ∈ ws0, w.before args s = true) (hrc : rm.cells = mc) (hrs : rm.slots = ms) (hR : rm.frames + 1 ≤ R.frames ∧ 8 + (4 + 11) + rm.locals ≤ R.locals) : CallW R s args "ScaleShopLaw" RX10 28 yX10_done cX10_done 4 (some .boolean) (.code yX10_done cX10_done 4 (some .boolean) :: ws0) rm mc ms 1 := cwV 1 hts (zz_gV mw_517 mw_518 mw_519 mw_99 mc_yX10_done) rfl hrc hrs (by decide +kernel) hR
theorem csV_236 {R : Room} {s : State} {args : Array Value} {rm : Room} {mc ms : Nat} (hts : ∀ w ∈ ws0, w.before args s = true) (hrc : rm.cells = mc) (hrs : rm.slots = ms) (hR : rm.frames + 1 ≤ R.frames ∧ 8 + (2 + 11) + rm.locals ≤ R.locals) : CallW R s args "ScaleShopLaw" RX11 31 yX11_done cX11_done 2 (some .boolean) (.code yX11_done cX11_done 2 (some .boolean) :: ws0) rm mc ms 1 := cwV 1 hts (zz_gV mw_1357 mw_1358 mw_1359 mw_110 mc_yX11_done) rfl hrc hrs (by decide +kernel) hR
theorem csV_237 {R : Room} {s : State} {args : Array Value} {rm : Room} {mc ms : Nat} (hts : ∀ w ∈ ws0, w.before args s = true) (hrc : rm.cells = mc) (hrs : rm.slots = ms) (hR : rm.frames + 1 ≤ R.frames ∧ 8 + (5 + 11) + rm.locals ≤ R.locals) : CallW R s args "ScaleShopLaw" RX10 32 yX10_plainer cX10_plainer 5 (some .int) (.code yX10_plainer cX10_plainer 5 (some .int) :: ws0) rm mc ms 2 := cwV 2 hts (zz_gV mw_560 mw_561 mw_562 mw_99 mc_yX10_plainer) rfl hrc hrs (by decide +kernel) hR
theorem csV_238 {R : Room} {s : State} {args : Array Value} {rm : Room} {mc ms : Nat} (hts : ∀ w ∈ ws0, w.before args s = true) (hrc : rm.cells = mc) (hrs : rm.slots = ms) (hR : rm.frames + 1 ≤ R.frames ∧ 8 + (4 + 11) + rm.locals ≤ R.locals) : CallW R s args "ScaleShopLaw" RX11 36 yX11_plainer cX11_plainer 4 (some .int) (.code yX11_plainer cX11_plainer 4 (some .int) :: ws0) rm mc ms 2 := cwV 2 hts (zz_gV mw_1403 mw_1404 mw_1405 mw_110 mc_yX11_plainer) rfl hrc hrs (by decide +kernel) hR
theorem csV_239 {R : Room} {s : State} {args : Array Value} {rm : Room} {mc ms : Nat} (hts : ∀ w ∈ ws0, w.before args s = true) (hrc : rm.cells = mc) (hrs : rm.slots = ms) (hR : rm.frames + 1 ≤ R.frames ∧ 8 + (4 + 11) + rm.locals ≤ R.locals) : CallW R s args "ScaleShopLaw" RX10 37 yX10_smooth cX10_smooth 4 (some .boolean) (.code yX10_smooth cX10_smooth 4 (some .boolean) :: ws0) rm mc ms 1 := cwV 1 hts (zz_gV mw_863 mw_864 mw_865 mw_99 mc_yX10_smooth) rfl hrc hrs (by decide +kernel) hR
theorem csV_240 {R : Room} {s : State} {args : Array Value} {rm : Room} {mc ms : Nat} (hts : ∀ w ∈ ws0, w.before args s = true) (hrc : rm.cells = mc) (hrs : rm.slots = ms) (hR : rm.frames + 1 ≤ R.frames ∧ 8 + (6 + 11) + rm.locals ≤ R.locals) : CallW R s args "ScaleShopLaw" RX11 40 yX11_smooth cX11_smooth 6 (some .boolean) (.code yX11_smooth cX11_smooth 6 (some .boolean) :: ws0) rm mc ms 1 := cwV 1 hts (zz_gV mw_1538 mw_1539 mw_1540 mw_110 mc_yX11_smooth) rfl hrc hrs (by decide +kernel) hR
theorem csV_241 {R : Room} {s : State} {args : Array Value} {rm : Room} {mc ms : Nat} (hts : ∀ w ∈ ws0, w.before args s = true) (hrc : rm.cells = mc) (hrs : rm.slots = ms) (hR : rm.frames + 1 ≤ R.frames ∧ 8 + (8 + 11) + rm.locals ≤ R.locals) : CallW R s args "ScaleShopLaw" RX10 41 yX10_shift cX10_shift 8 (some .boolean) (.code yX10_shift cX10_shift 8 (some .boolean) :: ws0) rm mc ms 5 := cwV 5 hts (zz_gV mw_882 mw_883 mw_884 mw_99 mc_yX10_shift) rfl hrc hrs (by decide +kernel) hR
theorem csV_242 {R : Room} {s : State} {args : Array Value} {rm : Room} {mc ms : Nat} (hts : ∀ w ∈ ws0, w.before args s = true) (hrc : rm.cells = mc) (hrs : rm.slots = ms) (hR : rm.frames + 1 ≤ R.frames ∧ 8 + (13 + 11) + rm.locals ≤ R.locals) : CallW R s args "ScaleShopLaw" RX11 45 yX11_shift cX11_shift 13 (some .boolean) (.code yX11_shift cX11_shift 13 (some .boolean) :: ws0) rm mc ms 5 := cwV 5 hts (zz_gV mw_1554 mw_1555 mw_1556 mw_110 mc_yX11_shift) rfl hrc hrs (by decide +kernel) hR
theorem csV_243 {R : Room} {s : State} {args : Array Value} {rm : Room} {mc ms : Nat} (hts : ∀ w ∈ ws0, w.before args s = true) (hrc : rm.cells = mc) (hrs : rm.slots = ms) (hR : rm.frames + 1 ≤ R.frames ∧ 8 + (4 + 11) + rm.locals ≤ R.locals) : CallW R s args "ScaleShopLaw" RX10 46 yX10_grow cX10_grow 4 (some .boolean) (.code yX10_grow cX10_grow 4 (some .boolean) :: ws0) rm mc ms 1 := cwV 1 hts (zz_gV mw_900 mw_901 mw_902 mw_99 mc_yX10_grow) rfl hrc hrs (by decide +kernel) hR
theorem csV_244 {R : Room} {s : State} {args : Array Value} {rm : Room} {mc ms : Nat} (hts : ∀ w ∈ ws0, w.before args s = true) (hrc : rm.cells = mc) (hrs : rm.slots = ms) (hR : rm.frames + 1 ≤ R.frames ∧ 8 + (4 + 11) + rm.locals ≤ R.locals) : CallW R s args "ScaleShopLaw" RX11 49 yX11_grow cX11_grow 4 (some .boolean) (.code yX11_grow cX11_grow 4 (some .boolean) :: ws0) rm mc ms 1 := cwV 1 hts (zz_gV mw_1563 mw_1564 mw_1565 mw_110 mc_yX11_grow) rfl hrc hrs (by decide +kernel) hR
theorem csV_245 {R : Room} {s : State} {args : Array Value} {rm : Room} {mc ms : Nat} (hts : ∀ w ∈ ws0, w.before args s = true) (hrc : rm.cells = mc) (hrs : rm.slots = ms) (hR : rm.frames + 1 ≤ R.frames ∧ 8 + (5 + 11) + rm.locals ≤ R.locals) : CallW R s args "ScaleShopLaw" RX10 50 yX10_square cX10_square 5 (some .boolean) (.code yX10_square cX10_square 5 (some .boolean) :: ws0) rm mc ms 2 := cwV 2 hts (zz_gV mw_908 mw_909 mw_910 mw_99 mc_yX10_square) rfl hrc hrs (by decide +kernel) hR
theorem csV_246 {R : Room} {s : State} {args : Array Value} {rm : Room} {mc ms : Nat} (hts : ∀ w ∈ ws0, w.before args s = true) (hrc : rm.cells = mc) (hrs : rm.slots = ms) (hR : rm.frames + 1 ≤ R.frames ∧ 8 + (6 + 11) + rm.locals ≤ R.locals) : CallW R s args "ScaleShopLaw" RX11 54 yX11_square cX11_square 6 (some .boolean) (.code yX11_square cX11_square 6 (some .boolean) :: ws0) rm mc ms 2 := cwV 2 hts (zz_gV mw_1567 mw_1568 mw_1569 mw_110 mc_yX11_square) rfl hrc hrs (by decide +kernel) hR
theorem csV_247 {R : Room} {s : State} {args : Array Value} {rm : Room} {mc ms : Nat} (hts : ∀ w ∈ ws0, w.before args s = true) (hrc : rm.cells = mc) (hrs : rm.slots = ms) (hR : rm.frames + 1 ≤ R.frames ∧ 8 + (3 + 11) + rm.locals ≤ R.locals) : CallW R s args "ScaleShopLaw" RX10 59 yX10_drop cX10_drop 3 (some .boolean) (.code yX10_drop cX10_drop 3 (some .boolean) :: ws0) rm mc ms 1 := cwV 1 hts (zz_gV mw_971 mw_972 mw_973 mw_99 mc_yX10_drop) rfl hrc hrs (by decide +kernel) hR
theorem csV_248 {R : Room} {s : State} {args : Array Value} {rm : Room} {mc ms : Nat} (hts : ∀ w ∈ ws0, w.before args s = true) (hrc : rm.cells = mc) (hrs : rm.slots = ms) (hR : rm.frames + 1 ≤ R.frames ∧ 8 + (4 + 11) + rm.locals ≤ R.locals) : CallW R s args "ScaleShopLaw" RX11 62 yX11_drop cX11_drop 4 (some .boolean) (.code yX11_drop cX11_drop 4 (some .boolean) :: ws0) rm mc ms 1 := cwV 1 hts (zz_gV mw_1608 mw_1609 mw_1610 mw_110 mc_yX11_drop) rfl hrc hrs (by decide +kernel) hR
theorem csV_249 {R : Room} {s : State} {args : Array Value} {rm : Room} {mc ms : Nat} (hts : ∀ w ∈ ws0, w.before args s = true) (hrc : rm.cells = mc) (hrs : rm.slots = ms) (hR : rm.frames + 1 ≤ R.frames ∧ 8 + (6 + 11) + rm.locals ≤ R.locals) : CallW R s args "ScaleShopLaw" RX10 13 yX10_feature cX10_feature 6 (some .int) (.code yX10_feature cX10_feature 6 (some .int) :: ws0) rm mc ms 4 := cwV 4 hts (zz_gV mw_349 mw_350 mw_351 mw_99 mc_yX10_feature) rfl hrc hrs (by decide +kernel) hR
theorem csV_250 {R : Room} {s : State} {args : Array Value} {rm : Room} {mc ms : Nat} (hts : ∀ w ∈ ws0, w.before args s = true) (hrc : rm.cells = mc) (hrs : rm.slots = ms) (hR : rm.frames + 1 ≤ R.frames ∧ 8 + (6 + 11) + rm.locals ≤ R.locals) : CallW R s args "ScaleShopLaw" RX11 17 yX11_feature cX11_feature 6 (some .int) (.code yX11_feature cX11_feature 6 (some .int) :: ws0) rm mc ms 4 := cwV 4 hts (zz_gV mw_1325 mw_1326 mw_1327 mw_110 mc_yX11_feature) rfl hrc hrs (by decide +kernel) hR
theorem csV_251 {R : Room} {s : State} {args : Array Value} {rm : Room} {mc ms : Nat} (hts : ∀ w ∈ ws0, w.before args s = true) (hrc : rm.cells = mc) (hrs : rm.slots = ms) (hR : rm.frames + 1 ≤ R.frames ∧ 8 + (2 + 11) + rm.locals ≤ R.locals) : CallW R s args "ScaleShopLaw" RX10 77 yX10_undo cX10_undo 2 (some .int) (.code yX10_undo cX10_undo 2 (some .int) :: ws0) rm mc ms 0 := cwV 0 hts (zz_gV mw_1028 mw_1029 mw_1030 mw_99 mc_yX10_undo) rfl hrc hrs (by decide +kernel) hR
theorem csV_252 {R : Room} {s : State} {args : Array Value} {rm : Room} {mc ms : Nat} (hts : ∀ w ∈ ws0, w.before args s = true) (hrc : rm.cells = mc) (hrs : rm.slots = ms) (hR : rm.frames + 1 ≤ R.frames ∧ 8 + (1 + 11) + rm.locals ≤ R.locals) : CallW R s args "ScaleShopLaw" RX11 80 yX11_undo cX11_undo 1 (some .int) (.code yX11_undo cX11_undo 1 (some .int) :: ws0) rm mc ms 0 := cwV 0 hts (zz_gV mw_1645 mw_1646 mw_1647 mw_110 mc_yX11_undo) rfl hrc hrs (by decide +kernel) hR
theorem csV_253 {R : Room} {s : State} {args : Array Value} {rm : Room} {mc ms : Nat} (hts : ∀ w ∈ ws0, w.before args s = true) (hrc : rm.cells = mc) (hrs : rm.slots = ms) (hR : rm.frames + 1 ≤ R.frames ∧ 8 + (2 + 11) + rm.locals ≤ R.locals) : CallW R s args "ScaleShopLaw" RX10 81 yX10_redo cX10_redo 2 (some .int) (.code yX10_redo cX10_redo 2 (some .int) :: ws0) rm mc ms 0 := cwV 0 hts (zz_gV mw_1049 mw_1050 mw_1051 mw_99 mc_yX10_redo) rfl hrc hrs (by decide +kernel) hR
theorem csV_254 {R : Room} {s : State} {args : Array Value} {rm : Room} {mc ms : Nat} (hts : ∀ w ∈ ws0, w.before args s = true) (hrc : rm.cells = mc) (hrs : rm.slots = ms) (hR : rm.frames + 1 ≤ R.frames ∧ 8 + (1 + 11) + rm.locals ≤ R.locals) : CallW R s args "ScaleShopLaw" RX11 84 yX11_redo cX11_redo 1 (some .int) (.code yX11_redo cX11_redo 1 (some .int) :: ws0) rm mc ms 0 := cwV 0 hts (zz_gV mw_1657 mw_1658 mw_1659 mw_110 mc_yX11_redo) rfl hrc hrs (by decide +kernel) hR
theorem csV_255 {R : Room} {s : State} {args : Array Value} {rm : Room} {mc ms : Nat} (hts : ∀ w ∈ ws0, w.before args s = true) (hrc : rm.cells = mc) (hrs : rm.slots = ms) (hR : rm.frames + 1 ≤ R.frames ∧ 8 + (6 + 11) + rm.locals ≤ R.locals) : CallW R s args "ScaleShopLaw" RX10 63 yX10_few cX10_few 6 (some .int) (.code yX10_few cX10_few 6 (some .int) :: ws0) rm mc ms 2 := cwV 2 hts (zz_gV mw_975 mw_976 mw_977 mw_99 mc_yX10_few) rfl hrc hrs (by decide +kernel) hR
theorem csV_256 {R : Room} {s : State} {args : Array Value} {rm : Room} {mc ms : Nat} (hts : ∀ w ∈ ws0, w.before args s = true) (hrc : rm.cells = mc) (hrs : rm.slots = ms) (hR : rm.frames + 1 ≤ R.frames ∧ 8 + (9 + 11) + rm.locals ≤ R.locals) : CallW R s args "ScaleShopLaw" RX11 66 yX11_few cX11_few 9 (some .int) (.code yX11_few cX11_few 9 (some .int) :: ws0) rm mc ms 2 := cwV 2 hts (zz_gV mw_1612 mw_1613 mw_1614 mw_110 mc_yX11_few) rfl hrc hrs (by decide +kernel) hR
theorem csV_257 {R : Room} {s : State} {args : Array Value} {rm : Room} {mc ms : Nat} (hts : ∀ w ∈ ws0, w.before args s = true) (hrc : rm.cells = mc) (hrs : rm.slots = ms) (hR : rm.frames + 1 ≤ R.frames ∧ 8 + (2 + 11) + rm.locals ≤ R.locals) : CallW R s args "ScaleShopLaw" RX10 67 yX10_choose cX10_choose 2 (some .int) (.code yX10_choose cX10_choose 2 (some .int) :: ws0) rm mc ms 0 := cwV 0 hts (zz_gV mw_992 mw_993 mw_994 mw_99 mc_yX10_choose) rfl hrc hrs (by decide +kernel) hR
theorem csV_258 {R : Room} {s : State} {args : Array Value} {rm : Room} {mc ms : Nat} (hts : ∀ w ∈ ws0, w.before args s = true) (hrc : rm.cells = mc) (hrs : rm.slots = ms) (hR : rm.frames + 1 ≤ R.frames ∧ 8 + (7 + 11) + rm.locals ≤ R.locals) : CallW R s args "ScaleShopLaw" RX11 71 yX11_choose cX11_choose 7 (some .int) (.code yX11_choose cX11_choose 7 (some .int) :: ws0) rm mc ms 0 := cwV 0 hts (zz_gV mw_1625 mw_1626 mw_1627 mw_110 mc_yX11_choose) rfl hrc hrs (by decide +kernel) hR
theorem csV_259 {R : Room} {s : State} {args : Array Value} {rm : Room} {mc ms : Nat} (hts : ∀ w ∈ ws0, w.before args s = true) (hrc : rm.cells = mc) (hrs : rm.slots = ms) (hR : rm.frames + 1 ≤ R.frames ∧ 8 + (7 + 11) + rm.locals ≤ R.locals) : CallW R s args "ScaleShopLaw" RX10 72 yX10_run cX10_run 7 (some .int) (.code yX10_run cX10_run 7 (some .int) :: ws0) rm mc ms 1 := cwV 1 hts (zz_gV mw_1023 mw_1024 mw_1025 mw_99 mc_yX10_run) rfl hrc hrs (by decide +kernel) hR
theorem csV_260 {R : Room} {s : State} {args : Array Value} {rm : Room} {mc ms : Nat} (hts : ∀ w ∈ ws0, w.before args s = true) (hrc : rm.cells = mc) (hrs : rm.slots = ms) (hR : rm.frames + 1 ≤ R.frames ∧ 8 + (2 + 11) + rm.locals ≤ R.locals) : CallW R s args "ScaleShopLaw" RX11 76 yX11_run cX11_run 2 (some .int) (.code yX11_run cX11_run 2 (some .int) :: ws0) rm mc ms 1 := cwV 1 hts (zz_gV mw_1534 mw_1535 mw_1536 mw_110 mc_yX11_run) rfl hrc hrs (by decide +kernel) hR
theorem csV_261 {R : Room} {s : State} {args : Array Value} {rm : Room} {mc ms : Nat} (hts : ∀ w ∈ ws0, w.before args s = true) (hrc : rm.cells = mc) (hrs : rm.slots = ms) (hR : rm.frames + 1 ≤ R.frames ∧ 8 + (8 + 11) + rm.locals ≤ R.locals) : CallW R s args "ScaleShopLaw" RX10 55 yX10_join cX10_join 8 (some .int) (.code yX10_join cX10_join 8 (some .int) :: ws0) rm mc ms 3 := cwV 3 hts (zz_gV mw_921 mw_922 mw_923 mw_99 mc_yX10_join) rfl hrc hrs (by decide +kernel) hR
theorem csV_262 {R : Room} {s : State} {args : Array Value} {rm : Room} {mc ms : Nat} (hts : ∀ w ∈ ws0, w.before args s = true) (hrc : rm.cells = mc) (hrs : rm.slots = ms) (hR : rm.frames + 1 ≤ R.frames ∧ 8 + (9 + 11) + rm.locals ≤ R.locals) : CallW R s args "ScaleShopLaw" RX11 58 yX11_join cX11_join 9 (some .int) (.code yX11_join cX11_join 9 (some .int) :: ws0) rm mc ms 3 := cwV 3 hts (zz_gV mw_1584 mw_1585 mw_1586 mw_110 mc_yX11_join) rfl hrc hrs (by decide +kernel) hR
theorem csV_263 {R : Room} {s : State} {args : Array Value} {rm : Room} {mc ms : Nat} (hts : ∀ w ∈ ws0, w.before args s = true) (hrc : rm.cells = mc) (hrs : rm.slots = ms) (hR : rm.frames + 1 ≤ R.frames ∧ 8 + (5 + 11) + rm.locals ≤ R.locals) : CallW R s args "ScaleShopLaw" RX10 89 yX10_inside cX10_inside 5 (some .int) (.code yX10_inside cX10_inside 5 (some .int) :: ws0) rm mc ms 3 := cwV 3 hts (zz_gV mw_1062 mw_1063 mw_1064 mw_99 mc_yX10_inside) rfl hrc hrs (by decide +kernel) hR
theorem csV_264 {R : Room} {s : State} {args : Array Value} {rm : Room} {mc ms : Nat} (hts : ∀ w ∈ ws0, w.before args s = true) (hrc : rm.cells = mc) (hrs : rm.slots = ms) (hR : rm.frames + 1 ≤ R.frames ∧ 8 + (4 + 11) + rm.locals ≤ R.locals) : CallW R s args "ScaleShopLaw" RX11 92 yX11_inside cX11_inside 4 (some .int) (.code yX11_inside cX11_inside 4 (some .int) :: ws0) rm mc ms 3 := cwV 3 hts (zz_gV mw_1665 mw_1666 mw_1667 mw_110 mc_yX11_inside) rfl hrc hrs (by decide +kernel) hR
theorem csV_265 {R : Room} {s : State} {args : Array Value} {rm : Room} {mc ms : Nat} (hts : ∀ w ∈ ws0, w.before args s = true) (hrc : rm.cells = mc) (hrs : rm.slots = ms) (hR : rm.frames + 1 ≤ R.frames ∧ 8 + (8 + 11) + rm.locals ≤ R.locals) : CallW R s args "ScaleShopLaw" RX10 93 yX10_side cX10_side 8 (some .int) (.code yX10_side cX10_side 8 (some .int) :: ws0) rm mc ms 4 := cwV 4 hts (zz_gV mw_1067 mw_1068 mw_1069 mw_99 mc_yX10_side) rfl hrc hrs (by decide +kernel) hR
theorem csV_266 {R : Room} {s : State} {args : Array Value} {rm : Room} {mc ms : Nat} (hts : ∀ w ∈ ws0, w.before args s = true) (hrc : rm.cells = mc) (hrs : rm.slots = ms) (hR : rm.frames + 1 ≤ R.frames ∧ 8 + (6 + 11) + rm.locals ≤ R.locals) : CallW R s args "ScaleShopLaw" RX11 96 yX11_side cX11_side 6 (some .int) (.code yX11_side cX11_side 6 (some .int) :: ws0) rm mc ms 4 := cwV 4 hts (zz_gV mw_1669 mw_1670 mw_1671 mw_110 mc_yX11_side) rfl hrc hrs (by decide +kernel) hR
theorem csV_267 {R : Room} {s : State} {args : Array Value} {rm : Room} {mc ms : Nat} (hts : ∀ w ∈ ws0, w.before args s = true) (hrc : rm.cells = mc) (hrs : rm.slots = ms) (hR : rm.frames + 1 ≤ R.frames ∧ 8 + (6 + 11) + rm.locals ≤ R.locals) : CallW R s args "ScaleShopLaw" RX10 110 yX10_far cX10_far 6 (some .long) (.code yX10_far cX10_far 6 (some .long) :: ws0) rm mc ms 2 := cwV 2 hts (zz_gV mw_1105 mw_1106 mw_1107 mw_99 mc_yX10_far) rfl hrc hrs (by decide +kernel) hR
theorem csV_268 {R : Room} {s : State} {args : Array Value} {rm : Room} {mc ms : Nat} (hts : ∀ w ∈ ws0, w.before args s = true) (hrc : rm.cells = mc) (hrs : rm.slots = ms) (hR : rm.frames + 1 ≤ R.frames ∧ 8 + (9 + 11) + rm.locals ≤ R.locals) : CallW R s args "ScaleShopLaw" RX11 114 yX11_far cX11_far 9 (some .long) (.code yX11_far cX11_far 9 (some .long) :: ws0) rm mc ms 2 := cwV 2 hts (zz_gV mw_1690 mw_1691 mw_1692 mw_110 mc_yX11_far) rfl hrc hrs (by decide +kernel) hR
theorem csV_269 {R : Room} {s : State} {args : Array Value} {rm : Room} {mc ms : Nat} (hts : ∀ w ∈ ws0, w.before args s = true) (hrc : rm.cells = mc) (hrs : rm.slots = ms) (hR : rm.frames + 1 ≤ R.frames ∧ 8 + (3 + 11) + rm.locals ≤ R.locals) : CallW R s args "ScaleShopLaw" RX10 115 yX10_size cX10_size 3 (some .long) (.code yX10_size cX10_size 3 (some .long) :: ws0) rm mc ms 1 := cwV 1 hts (zz_gV mw_1116 mw_1117 mw_1118 mw_99 mc_yX10_size) rfl hrc hrs (by decide +kernel) hR
theorem csV_270 {R : Room} {s : State} {args : Array Value} {rm : Room} {mc ms : Nat} (hts : ∀ w ∈ ws0, w.before args s = true) (hrc : rm.cells = mc) (hrs : rm.slots = ms) (hR : rm.frames + 1 ≤ R.frames ∧ 8 + (2 + 11) + rm.locals ≤ R.locals) : CallW R s args "ScaleShopLaw" RX11 119 yX11_size cX11_size 2 (some .long) (.code yX11_size cX11_size 2 (some .long) :: ws0) rm mc ms 1 := cwV 1 hts (zz_gV mw_1694 mw_1695 mw_1696 mw_110 mc_yX11_size) rfl hrc hrs (by decide +kernel) hR
theorem csV_271 {R : Room} {s : State} {args : Array Value} {rm : Room} {mc ms : Nat} (hts : ∀ w ∈ ws0, w.before args s = true) (hrc : rm.cells = mc) (hrs : rm.slots = ms) (hR : rm.frames + 1 ≤ R.frames ∧ 8 + (6 + 11) + rm.locals ≤ R.locals) : CallW R s args "ScaleShopLaw" RX10 120 yX10_at cX10_at 6 (some .int) (.code yX10_at cX10_at 6 (some .int) :: ws0) rm mc ms 3 := cwV 3 hts (zz_gV mw_1121 mw_1122 mw_1123 mw_99 mc_yX10_at) rfl hrc hrs (by decide +kernel) hR
theorem csV_272 {R : Room} {s : State} {args : Array Value} {rm : Room} {mc ms : Nat} (hts : ∀ w ∈ ws0, w.before args s = true) (hrc : rm.cells = mc) (hrs : rm.slots = ms) (hR : rm.frames + 1 ≤ R.frames ∧ 8 + (4 + 11) + rm.locals ≤ R.locals) : CallW R s args "ScaleShopLaw" RX11 123 yX11_at cX11_at 4 (some .int) (.code yX11_at cX11_at 4 (some .int) :: ws0) rm mc ms 3 := cwV 3 hts (zz_gV mw_1698 mw_1699 mw_1700 mw_110 mc_yX11_at) rfl hrc hrs (by decide +kernel) hR
theorem csV_273 {R : Room} {s : State} {args : Array Value} {rm : Room} {mc ms : Nat} (hts : ∀ w ∈ ws0, w.before args s = true) (hrc : rm.cells = mc) (hrs : rm.slots = ms) (hR : rm.frames + 1 ≤ R.frames ∧ 8 + (4 + 11) + rm.locals ≤ R.locals) : CallW R s args "ScaleShopLaw" RX10 124 yX10_told cX10_told 4 (some .int) (.code yX10_told cX10_told 4 (some .int) :: ws0) rm mc ms 2 := cwV 2 hts (zz_gV mw_1125 mw_1126 mw_1127 mw_99 mc_yX10_told) rfl hrc hrs (by decide +kernel) hR
theorem csV_274 {R : Room} {s : State} {args : Array Value} {rm : Room} {mc ms : Nat} (hts : ∀ w ∈ ws0, w.before args s = true) (hrc : rm.cells = mc) (hrs : rm.slots = ms) (hR : rm.frames + 1 ≤ R.frames ∧ 8 + (3 + 11) + rm.locals ≤ R.locals) : CallW R s args "ScaleShopLaw" RX11 127 yX11_told cX11_told 3 (some .int) (.code yX11_told cX11_told 3 (some .int) :: ws0) rm mc ms 2 := cwV 2 hts (zz_gV mw_1702 mw_1703 mw_1704 mw_110 mc_yX11_told) rfl hrc hrs (by decide +kernel) hR
theorem csV_275 {R : Room} {s : State} {args : Array Value} {rm : Room} {mc ms : Nat} (hts : ∀ w ∈ ws0, w.before args s = true) (hrc : rm.cells = mc) (hrs : rm.slots = ms) (hR : rm.frames + 1 ≤ R.frames ∧ 8 + (5 + 11) + rm.locals ≤ R.locals) : CallW R s args "ScaleShopLaw" RX10 85 yX10_meets cX10_meets 5 (some .boolean) (.code yX10_meets cX10_meets 5 (some .boolean) :: ws0) rm mc ms 2 := cwV 2 hts (zz_gV mw_1057 mw_1058 mw_1059 mw_99 mc_yX10_meets) rfl hrc hrs (by decide +kernel) hR
theorem csV_276 {R : Room} {s : State} {args : Array Value} {rm : Room} {mc ms : Nat} (hts : ∀ w ∈ ws0, w.before args s = true) (hrc : rm.cells = mc) (hrs : rm.slots = ms) (hR : rm.frames + 1 ≤ R.frames ∧ 8 + (3 + 11) + rm.locals ≤ R.locals) : CallW R s args "ScaleShopLaw" RX11 88 yX11_meets cX11_meets 3 (some .boolean) (.code yX11_meets cX11_meets 3 (some .boolean) :: ws0) rm mc ms 2 := cwV 2 hts (zz_gV mw_1661 mw_1662 mw_1663 mw_110 mc_yX11_meets) rfl hrc hrs (by decide +kernel) hR
theorem csV_277 {R : Room} {s : State} {args : Array Value} {rm : Room} {mc ms : Nat} (hts : ∀ w ∈ ws0, w.before args s = true) (hrc : rm.cells = mc) (hrs : rm.slots = ms) (hR : rm.frames + 1 ≤ R.frames ∧ 8 + (6 + 11) + rm.locals ≤ R.locals) : CallW R s args "ScaleShopLaw" RX10 97 yX10_near cX10_near 6 (some .long) (.code yX10_near cX10_near 6 (some .long) :: ws0) rm mc ms 3 := cwV 3 hts (zz_gV mw_1073 mw_1074 mw_1075 mw_99 mc_yX10_near) rfl hrc hrs (by decide +kernel) hR
theorem csV_278 {R : Room} {s : State} {args : Array Value} {rm : Room} {mc ms : Nat} (hts : ∀ w ∈ ws0, w.before args s = true) (hrc : rm.cells = mc) (hrs : rm.slots = ms) (hR : rm.frames + 1 ≤ R.frames ∧ 8 + (4 + 11) + rm.locals ≤ R.locals) : CallW R s args "ScaleShopLaw" RX11 101 yX11_near cX11_near 4 (some .long) (.code yX11_near cX11_near 4 (some .long) :: ws0) rm mc ms 3 := cwV 3 hts (zz_gV mw_1673 mw_1674 mw_1675 mw_110 mc_yX11_near) rfl hrc hrs (by decide +kernel) hR
theorem csV_279 {R : Room} {s : State} {args : Array Value} {rm : Room} {mc ms : Nat} (hts : ∀ w ∈ ws0, w.before args s = true) (hrc : rm.cells = mc) (hrs : rm.slots = ms) (hR : rm.frames + 1 ≤ R.frames ∧ 8 + (5 + 11) + rm.locals ≤ R.locals) : CallW R s args "ScaleShopLaw" RX10 102 yX10_clashes cX10_clashes 5 (some .int) (.code yX10_clashes cX10_clashes 5 (some .int) :: ws0) rm mc ms 1 := cwV 1 hts (zz_gV mw_1082 mw_1083 mw_1084 mw_99 mc_yX10_clashes) rfl hrc hrs (by decide +kernel) hR
theorem csV_280 {R : Room} {s : State} {args : Array Value} {rm : Room} {mc ms : Nat} (hts : ∀ w ∈ ws0, w.before args s = true) (hrc : rm.cells = mc) (hrs : rm.slots = ms) (hR : rm.frames + 1 ≤ R.frames ∧ 8 + (5 + 11) + rm.locals ≤ R.locals) : CallW R s args "ScaleShopLaw" RX11 105 yX11_clashes cX11_clashes 5 (some .int) (.code yX11_clashes cX11_clashes 5 (some .int) :: ws0) rm mc ms 1 := cwV 1 hts (zz_gV mw_1677 mw_1678 mw_1679 mw_110 mc_yX11_clashes) rfl hrc hrs (by decide +kernel) hR
theorem csV_281 {R : Room} {s : State} {args : Array Value} {rm : Room} {mc ms : Nat} (hts : ∀ w ∈ ws0, w.before args s = true) (hrc : rm.cells = mc) (hrs : rm.slots = ms) (hR : rm.frames + 1 ≤ R.frames ∧ 8 + (6 + 11) + rm.locals ≤ R.locals) : CallW R s args "ScaleShopLaw" RX10 106 yX10_clash cX10_clash 6 (some .int) (.code yX10_clash cX10_clash 6 (some .int) :: ws0) rm mc ms 3 := cwV 3 hts (zz_gV mw_1101 mw_1102 mw_1103 mw_99 mc_yX10_clash) rfl hrc hrs (by decide +kernel) hR
theorem csV_282 {R : Room} {s : State} {args : Array Value} {rm : Room} {mc ms : Nat} (hts : ∀ w ∈ ws0, w.before args s = true) (hrc : rm.cells = mc) (hrs : rm.slots = ms) (hR : rm.frames + 1 ≤ R.frames ∧ 8 + (7 + 11) + rm.locals ≤ R.locals) : CallW R s args "ScaleShopLaw" RX11 109 yX11_clash cX11_clash 7 (some .int) (.code yX11_clash cX11_clash 7 (some .int) :: ws0) rm mc ms 3 := cwV 3 hts (zz_gV mw_1686 mw_1687 mw_1688 mw_110 mc_yX11_clash) rfl hrc hrs (by decide +kernel) hR
theorem csV_283 {R : Room} {s : State} {args : Array Value} {rm : Room} {mc ms : Nat} (hts : ∀ w ∈ ws0, w.before args s = true) (hrc : rm.cells = mc) (hrs : rm.slots = ms) (hR : rm.frames + 1 ≤ R.frames ∧ 8 + (4 + 11) + rm.locals ≤ R.locals) : CallW R s args "ScaleShopLaw" RX10 128 yX10_step cX10_step 4 (some .int) (.code yX10_step cX10_step 4 (some .int) :: ws0) rm mc ms 2 := cwV 2 hts (zz_gV mw_1129 mw_1130 mw_1131 mw_99 mc_yX10_step) rfl hrc hrs (by decide +kernel) hR
theorem csV_284 {R : Room} {s : State} {args : Array Value} {rm : Room} {mc ms : Nat} (hts : ∀ w ∈ ws0, w.before args s = true) (hrc : rm.cells = mc) (hrs : rm.slots = ms) (hR : rm.frames + 1 ≤ R.frames ∧ 8 + (3 + 11) + rm.locals ≤ R.locals) : CallW R s args "ScaleShopLaw" RX11 131 yX11_step cX11_step 3 (some .int) (.code yX11_step cX11_step 3 (some .int) :: ws0) rm mc ms 2 := cwV 2 hts (zz_gV mw_1706 mw_1707 mw_1708 mw_110 mc_yX11_step) rfl hrc hrs (by decide +kernel) hR
theorem csV_285 {R : Room} {s : State} {args : Array Value} {rm : Room} {mc ms : Nat} (hts : ∀ w ∈ ws0, w.before args s = true) (hrc : rm.cells = mc) (hrs : rm.slots = ms) (hR : rm.frames + 1 ≤ R.frames ∧ 8 + (2 + 11) + rm.locals ≤ R.locals) : CallW R s args "ScaleShopLaw" RX10 132 yX10_count cX10_count 2 (some .int) (.code yX10_count cX10_count 2 (some .int) :: ws0) rm mc ms 1 := cwV 1 hts (zz_gV mw_1133 mw_1134 mw_1135 mw_99 mc_yX10_count) rfl hrc hrs (by decide +kernel) hR
theorem csV_286 {R : Room} {s : State} {args : Array Value} {rm : Room} {mc ms : Nat} (hts : ∀ w ∈ ws0, w.before args s = true) (hrc : rm.cells = mc) (hrs : rm.slots = ms) (hR : rm.frames + 1 ≤ R.frames ∧ 8 + (7 + 11) + rm.locals ≤ R.locals) : CallW R s args "ScaleShopLaw" RX11 135 yX11_count cX11_count 7 (some .int) (.code yX11_count cX11_count 7 (some .int) :: ws0) rm mc ms 1 := cwV 1 hts (zz_gV mw_1710 mw_1711 mw_1712 mw_110 mc_yX11_count) rfl hrc hrs (by decide +kernel) hR
theorem csV_287 {R : Room} {s : State} {args : Array Value} {rm : Room} {mc ms : Nat} (hts : ∀ w ∈ ws0, w.before args s = true) (hrc : rm.cells = mc) (hrs : rm.slots = ms) (hR : rm.frames + 1 ≤ R.frames ∧ 8 + (1 + 11) + rm.locals ≤ R.locals) : CallW R s args "ScaleShopLaw" RX10 136 yX10_status cX10_status 1 (some .int) (.code yX10_status cX10_status 1 (some .int) :: ws0) rm mc ms 0 := cwV 0 hts (zz_gV mw_1149 mw_1150 mw_1151 mw_99 mc_yX10_status) rfl hrc hrs (by decide +kernel) hR
theorem csV_288 {R : Room} {s : State} {args : Array Value} {rm : Room} {mc ms : Nat} (hts : ∀ w ∈ ws0, w.before args s = true) (hrc : rm.cells = mc) (hrs : rm.slots = ms) (hR : rm.frames + 1 ≤ R.frames ∧ 8 + (1 + 11) + rm.locals ≤ R.locals) : CallW R s args "ScaleShopLaw" RX11 139 yX11_status cX11_status 1 (some .int) (.code yX11_status cX11_status 1 (some .int) :: ws0) rm mc ms 0 := cwV 0 hts (zz_gV mw_1714 mw_1715 mw_1716 mw_110 mc_yX11_status) rfl hrc hrs (by decide +kernel) hR
end
