theorem dX10_clash_43 : decode cX10_clash 43 = .ok (.iconst 0, 1) := by decide +kernel
theorem dX10_clash_44 : decode cX10_clash 44 = .ok (.istore 5, 2) := by decide +kernel
theorem dX10_clash_46 : decode cX10_clash 46 = .ok (.iload 5, 2) := by decide +kernel
theorem dX10_clash_48 : decode cX10_clash 48 = .ok (.iload_n 2, 1) := by decide +kernel
theorem dX10_clash_49 : decode cX10_clash 49 = .ok (.if_icmp .ge 24, 3) := by decide +kernel
theorem dX10_clash_73 : decode cX10_clash 73 = .ok (.iload 4, 2) := by decide +kernel
theorem dX10_clash_75 : decode cX10_clash 75 = .ok (.iconst (-1), 1) := by decide +kernel
theorem dX10_clash_76 : decode cX10_clash 76 = .ok (.if_icmp .ne 5, 3) := by decide +kernel
theorem dX10_clash_79 : decode cX10_clash 79 = .ok (.iconst (-1), 1) := by decide +kernel
theorem dX10_clash_80 : decode cX10_clash 80 = .ok (.ireturn, 1) := by decide +kernel
theorem dX10_clash_52 : decode cX10_clash 52 = .ok (.iload 4, 2) := by decide +kernel
theorem dX10_clash_54 : decode cX10_clash 54 = .ok (.iconst (-1), 1) := by decide +kernel
theorem dX10_clash_55 : decode cX10_clash 55 = .ok (.if_icmp .eq 18, 3) := by decide +kernel
theorem dX10_clash_33 : decode cX10_clash 33 = .ok (.iconst (-1), 1) := by decide +kernel
theorem dX10_clash_34 : decode cX10_clash 34 = .ok (.ireturn, 1) := by decide +kernel
theorem dX10_far_0 : decode cX10_far 0 = .ok (.aload_n 0, 1) := by decide +kernel
theorem dX10_far_1 : decode cX10_far 1 = .ok (.getfield 12, 3) := by decide +kernel
theorem dX10_far_4 : decode cX10_far 4 = .ok (.iload_n 1, 1) := by decide +kernel
theorem dX10_far_5 : decode cX10_far 5 = .ok (.invokevirtual 116, 3) := by decide +kernel
theorem dX10_far_8 : decode cX10_far 8 = .ok (.astore_n 3, 1) := by decide +kernel
theorem dX10_far_9 : decode cX10_far 9 = .ok (.aload_n 0, 1) := by decide +kernel
theorem dX10_far_10 : decode cX10_far 10 = .ok (.getfield 12, 3) := by decide +kernel
theorem dX10_far_13 : decode cX10_far 13 = .ok (.iload_n 1, 1) := by decide +kernel
theorem dX10_far_14 : decode cX10_far 14 = .ok (.invokevirtual 240, 3) := by decide +kernel
theorem dX10_far_17 : decode cX10_far 17 = .ok (.astore 4, 2) := by decide +kernel
theorem dX10_far_19 : decode cX10_far 19 = .ok (.aload_n 3, 1) := by decide +kernel
theorem dX10_far_20 : decode cX10_far 20 = .ok (.ifnull 17, 3) := by decide +kernel
theorem dX10_far_37 : decode cX10_far 37 = .ok (.ldc2_w 285, 3) := by decide +kernel
theorem dX10_far_40 : decode cX10_far 40 = .ok (.lreturn, 1) := by decide +kernel
theorem dX10_size_0 : decode cX10_size 0 = .ok (.aload_n 0, 1) := by decide +kernel
theorem dX10_size_1 : decode cX10_size 1 = .ok (.getfield 12, 3) := by decide +kernel
theorem dX10_size_4 : decode cX10_size 4 = .ok (.iload_n 1, 1) := by decide +kernel
theorem dX10_size_5 : decode cX10_size 5 = .ok (.invokevirtual 240, 3) := by decide +kernel
theorem dX10_size_8 : decode cX10_size 8 = .ok (.astore_n 2, 1) := by decide +kernel
theorem dX10_size_9 : decode cX10_size 9 = .ok (.aload_n 2, 1) := by decide +kernel
theorem dX10_size_10 : decode cX10_size 10 = .ok (.ifnonnull 7, 3) := by decide +kernel
theorem dX10_size_13 : decode cX10_size 13 = .ok (.ldc2_w 285, 3) := by decide +kernel
theorem dX10_size_16 : decode cX10_size 16 = .ok (.lreturn, 1) := by decide +kernel
theorem dX10_at_0 : decode cX10_at 0 = .ok (.aload_n 0, 1) := by decide +kernel
theorem dX10_at_1 : decode cX10_at 1 = .ok (.getfield 12, 3) := by decide +kernel
theorem dX10_at_4 : decode cX10_at 4 = .ok (.iload_n 1, 1) := by decide +kernel
theorem dX10_at_5 : decode cX10_at 5 = .ok (.invokevirtual 116, 3) := by decide +kernel
theorem dX10_at_8 : decode cX10_at 8 = .ok (.astore 4, 2) := by decide +kernel
theorem dX10_at_10 : decode cX10_at 10 = .ok (.aload 4, 2) := by decide +kernel
theorem dX10_at_12 : decode cX10_at 12 = .ok (.ifnull 12, 3) := by decide +kernel
theorem dX10_at_24 : decode cX10_at 24 = .ok (.iconst (-1), 1) := by decide +kernel
theorem dX10_at_25 : decode cX10_at 25 = .ok (.ireturn, 1) := by decide +kernel
theorem dX10_told_0 : decode cX10_told 0 = .ok (.aload_n 0, 1) := by decide +kernel
theorem dX10_told_1 : decode cX10_told 1 = .ok (.getfield 12, 3) := by decide +kernel
theorem dX10_told_4 : decode cX10_told 4 = .ok (.iload_n 1, 1) := by decide +kernel
theorem dX10_told_5 : decode cX10_told 5 = .ok (.invokevirtual 116, 3) := by decide +kernel
theorem dX10_told_8 : decode cX10_told 8 = .ok (.astore_n 3, 1) := by decide +kernel
theorem dX10_told_9 : decode cX10_told 9 = .ok (.aload_n 3, 1) := by decide +kernel
theorem dX10_told_10 : decode cX10_told 10 = .ok (.ifnonnull 5, 3) := by decide +kernel
theorem dX10_told_13 : decode cX10_told 13 = .ok (.iconst (-1), 1) := by decide +kernel
theorem dX10_told_14 : decode cX10_told 14 = .ok (.ireturn, 1) := by decide +kernel
theorem dX10_step_0 : decode cX10_step 0 = .ok (.iload_n 1, 1) := by decide +kernel
theorem dX10_step_1 : decode cX10_step 1 = .ok (.iconst 1, 1) := by decide +kernel
theorem dX10_step_2 : decode cX10_step 2 = .ok (.if_icmp .lt 14, 3) := by decide +kernel
theorem dX10_step_16 : decode cX10_step 16 = .ok (.iconst (-1), 1) := by decide +kernel
theorem dX10_step_17 : decode cX10_step 17 = .ok (.ireturn, 1) := by decide +kernel
theorem dX10_step_5 : decode cX10_step 5 = .ok (.iload_n 1, 1) := by decide +kernel
theorem dX10_step_6 : decode cX10_step 6 = .ok (.aload_n 0, 1) := by decide +kernel
theorem dX10_step_7 : decode cX10_step 7 = .ok (.getfield 57, 3) := by decide +kernel
theorem dX10_step_10 : decode cX10_step 10 = .ok (.invokevirtual 244, 3) := by decide +kernel
theorem dX10_step_13 : decode cX10_step 13 = .ok (.if_icmp .le 5, 3) := by decide +kernel
theorem dX10_count_0 : decode cX10_count 0 = .ok (.iload_n 1, 1) := by decide +kernel
theorem dX10_count_1 : decode cX10_count 1 = .ok (.tableswitch 112 0 7 #[47, 55, 64, 73, 81, 89, 94, 107], 47) := by decide +kernel
theorem dX10_count_48 : decode cX10_count 48 = .ok (.aload_n 0, 1) := by decide +kernel
theorem dX10_count_49 : decode cX10_count 49 = .ok (.getfield 12, 3) := by decide +kernel
theorem dX10_count_52 : decode cX10_count 52 = .ok (.getfield 224, 3) := by decide +kernel
theorem dX10_count_55 : decode cX10_count 55 = .ok (.ireturn, 1) := by decide +kernel
theorem dX10_count_56 : decode cX10_count 56 = .ok (.aload_n 0, 1) := by decide +kernel
theorem dX10_count_57 : decode cX10_count 57 = .ok (.getfield 12, 3) := by decide +kernel
theorem dX10_count_60 : decode cX10_count 60 = .ok (.iconst 1, 1) := by decide +kernel
theorem dX10_count_61 : decode cX10_count 61 = .ok (.invokevirtual 363, 3) := by decide +kernel
theorem dX10_count_64 : decode cX10_count 64 = .ok (.ireturn, 1) := by decide +kernel
theorem dX10_count_65 : decode cX10_count 65 = .ok (.aload_n 0, 1) := by decide +kernel
theorem dX10_count_66 : decode cX10_count 66 = .ok (.getfield 12, 3) := by decide +kernel
theorem dX10_count_69 : decode cX10_count 69 = .ok (.iconst 2, 1) := by decide +kernel
theorem dX10_count_70 : decode cX10_count 70 = .ok (.invokevirtual 363, 3) := by decide +kernel
theorem dX10_count_73 : decode cX10_count 73 = .ok (.ireturn, 1) := by decide +kernel
theorem dX10_count_74 : decode cX10_count 74 = .ok (.aload_n 0, 1) := by decide +kernel
theorem dX10_count_75 : decode cX10_count 75 = .ok (.getfield 12, 3) := by decide +kernel
theorem dX10_count_78 : decode cX10_count 78 = .ok (.invokevirtual 366, 3) := by decide +kernel
theorem dX10_count_81 : decode cX10_count 81 = .ok (.ireturn, 1) := by decide +kernel
theorem dX10_count_82 : decode cX10_count 82 = .ok (.aload_n 0, 1) := by decide +kernel
theorem dX10_count_83 : decode cX10_count 83 = .ok (.getfield 12, 3) := by decide +kernel
theorem dX10_count_86 : decode cX10_count 86 = .ok (.invokevirtual 369, 3) := by decide +kernel
theorem dX10_count_89 : decode cX10_count 89 = .ok (.ireturn, 1) := by decide +kernel
theorem dX10_count_90 : decode cX10_count 90 = .ok (.aload_n 0, 1) := by decide +kernel
theorem dX10_count_91 : decode cX10_count 91 = .ok (.getfield 61, 3) := by decide +kernel
theorem dX10_count_94 : decode cX10_count 94 = .ok (.ireturn, 1) := by decide +kernel
theorem dX10_count_95 : decode cX10_count 95 = .ok (.aload_n 0, 1) := by decide +kernel
theorem dX10_count_96 : decode cX10_count 96 = .ok (.getfield 57, 3) := by decide +kernel
theorem dX10_count_99 : decode cX10_count 99 = .ok (.invokevirtual 244, 3) := by decide +kernel
theorem dX10_count_102 : decode cX10_count 102 = .ok (.aload_n 0, 1) := by decide +kernel
theorem dX10_count_103 : decode cX10_count 103 = .ok (.getfield 61, 3) := by decide +kernel
theorem dX10_count_106 : decode cX10_count 106 = .ok (.isub, 1) := by decide +kernel
theorem dX10_count_107 : decode cX10_count 107 = .ok (.ireturn, 1) := by decide +kernel
theorem dX10_count_108 : decode cX10_count 108 = .ok (.aload_n 0, 1) := by decide +kernel
theorem dX10_count_109 : decode cX10_count 109 = .ok (.getfield 68, 3) := by decide +kernel
theorem dX10_count_112 : decode cX10_count 112 = .ok (.ireturn, 1) := by decide +kernel
theorem dX10_count_113 : decode cX10_count 113 = .ok (.iconst (-1), 1) := by decide +kernel
theorem dX10_count_114 : decode cX10_count 114 = .ok (.ireturn, 1) := by decide +kernel
theorem dX10_status_0 : decode cX10_status 0 = .ok (.aload_n 0, 1) := by decide +kernel
theorem dX10_status_1 : decode cX10_status 1 = .ok (.getfield 71, 3) := by decide +kernel
theorem dX10_status_4 : decode cX10_status 4 = .ok (.ireturn, 1) := by decide +kernel
theorem dX11_init_0 : decode cX11_init 0 = .ok (.aload_n 0, 1) := by decide +kernel
theorem dX11_init_1 : decode cX11_init 1 = .ok (.invokespecial 1, 3) := by decide +kernel
theorem dX11_init_4 : decode cX11_init 4 = .ok (.aload_n 0, 1) := by decide +kernel
theorem dX11_init_5 : decode cX11_init 5 = .ok (.sipush 201, 3) := by decide +kernel
theorem dX11_init_8 : decode cX11_init 8 = .ok (.newarray .int, 2) := by decide +kernel
theorem dX11_init_10 : decode cX11_init 10 = .ok (.putfield 7, 3) := by decide +kernel
theorem dX11_init_13 : decode cX11_init 13 = .ok (.aload_n 0, 1) := by decide +kernel
theorem dX11_init_14 : decode cX11_init 14 = .ok (.sipush 201, 3) := by decide +kernel
theorem dX11_init_17 : decode cX11_init 17 = .ok (.newarray .int, 2) := by decide +kernel
theorem dX11_init_19 : decode cX11_init 19 = .ok (.putfield 13, 3) := by decide +kernel
theorem dX11_init_22 : decode cX11_init 22 = .ok (.aload_n 0, 1) := by decide +kernel
theorem dX11_init_23 : decode cX11_init 23 = .ok (.sipush 201, 3) := by decide +kernel
theorem dX11_init_26 : decode cX11_init 26 = .ok (.newarray .int, 2) := by decide +kernel
theorem dX11_init_28 : decode cX11_init 28 = .ok (.putfield 16, 3) := by decide +kernel
theorem dX11_init_31 : decode cX11_init 31 = .ok (.aload_n 0, 1) := by decide +kernel
theorem dX11_init_32 : decode cX11_init 32 = .ok (.sipush 201, 3) := by decide +kernel
theorem dX11_init_35 : decode cX11_init 35 = .ok (.newarray .int, 2) := by decide +kernel
theorem dX11_init_37 : decode cX11_init 37 = .ok (.putfield 19, 3) := by decide +kernel
theorem dX11_init_40 : decode cX11_init 40 = .ok (.aload_n 0, 1) := by decide +kernel
theorem dX11_init_41 : decode cX11_init 41 = .ok (.sipush 201, 3) := by decide +kernel
theorem dX11_init_44 : decode cX11_init 44 = .ok (.newarray .int, 2) := by decide +kernel
theorem dX11_init_46 : decode cX11_init 46 = .ok (.putfield 22, 3) := by decide +kernel
theorem dX11_init_49 : decode cX11_init 49 = .ok (.aload_n 0, 1) := by decide +kernel
theorem dX11_init_50 : decode cX11_init 50 = .ok (.sipush 201, 3) := by decide +kernel
theorem dX11_init_53 : decode cX11_init 53 = .ok (.newarray .boolean, 2) := by decide +kernel
theorem dX11_init_55 : decode cX11_init 55 = .ok (.putfield 25, 3) := by decide +kernel
theorem dX11_init_58 : decode cX11_init 58 = .ok (.aload_n 0, 1) := by decide +kernel
theorem dX11_init_59 : decode cX11_init 59 = .ok (.sipush 201, 3) := by decide +kernel
theorem dX11_init_62 : decode cX11_init 62 = .ok (.newarray .int, 2) := by decide +kernel
theorem dX11_init_64 : decode cX11_init 64 = .ok (.putfield 29, 3) := by decide +kernel
theorem dX11_init_67 : decode cX11_init 67 = .ok (.aload_n 0, 1) := by decide +kernel
theorem dX11_init_68 : decode cX11_init 68 = .ok (.sipush 201, 3) := by decide +kernel
theorem dX11_init_71 : decode cX11_init 71 = .ok (.newarray .int, 2) := by decide +kernel
theorem dX11_init_73 : decode cX11_init 73 = .ok (.putfield 32, 3) := by decide +kernel
theorem dX11_init_76 : decode cX11_init 76 = .ok (.aload_n 0, 1) := by decide +kernel
theorem dX11_init_77 : decode cX11_init 77 = .ok (.sipush 201, 3) := by decide +kernel
theorem dX11_init_80 : decode cX11_init 80 = .ok (.newarray .int, 2) := by decide +kernel
theorem dX11_init_82 : decode cX11_init 82 = .ok (.putfield 35, 3) := by decide +kernel
theorem dX11_init_85 : decode cX11_init 85 = .ok (.aload_n 0, 1) := by decide +kernel
theorem dX11_init_86 : decode cX11_init 86 = .ok (.sipush 201, 3) := by decide +kernel
theorem dX11_init_89 : decode cX11_init 89 = .ok (.newarray .int, 2) := by decide +kernel
theorem dX11_init_91 : decode cX11_init 91 = .ok (.putfield 38, 3) := by decide +kernel
theorem dX11_init_94 : decode cX11_init 94 = .ok (.aload_n 0, 1) := by decide +kernel
theorem dX11_init_95 : decode cX11_init 95 = .ok (.sipush 201, 3) := by decide +kernel
theorem dX11_init_98 : decode cX11_init 98 = .ok (.newarray .int, 2) := by decide +kernel
theorem dX11_init_100 : decode cX11_init 100 = .ok (.putfield 41, 3) := by decide +kernel
theorem dX11_init_103 : decode cX11_init 103 = .ok (.aload_n 0, 1) := by decide +kernel
theorem dX11_init_104 : decode cX11_init 104 = .ok (.sipush 8040, 3) := by decide +kernel
theorem dX11_init_107 : decode cX11_init 107 = .ok (.newarray .int, 2) := by decide +kernel
theorem dX11_init_109 : decode cX11_init 109 = .ok (.putfield 44, 3) := by decide +kernel
theorem dX11_init_112 : decode cX11_init 112 = .ok (.aload_n 0, 1) := by decide +kernel
theorem dX11_init_113 : decode cX11_init 113 = .ok (.sipush 8040, 3) := by decide +kernel
theorem dX11_init_116 : decode cX11_init 116 = .ok (.newarray .int, 2) := by decide +kernel
theorem dX11_init_118 : decode cX11_init 118 = .ok (.putfield 47, 3) := by decide +kernel
theorem dX11_init_121 : decode cX11_init 121 = .ok (.aload_n 0, 1) := by decide +kernel
theorem dX11_init_122 : decode cX11_init 122 = .ok (.sipush 514, 3) := by decide +kernel
theorem dX11_init_125 : decode cX11_init 125 = .ok (.newarray .int, 2) := by decide +kernel
theorem dX11_init_127 : decode cX11_init 127 = .ok (.putfield 50, 3) := by decide +kernel
theorem dX11_init_130 : decode cX11_init 130 = .ok (.aload_n 0, 1) := by decide +kernel
theorem dX11_init_131 : decode cX11_init 131 = .ok (.sipush 514, 3) := by decide +kernel
theorem dX11_init_134 : decode cX11_init 134 = .ok (.newarray .int, 2) := by decide +kernel
theorem dX11_init_136 : decode cX11_init 136 = .ok (.putfield 53, 3) := by decide +kernel
theorem dX11_init_139 : decode cX11_init 139 = .ok (.aload_n 0, 1) := by decide +kernel
theorem dX11_init_140 : decode cX11_init 140 = .ok (.sipush 514, 3) := by decide +kernel
theorem dX11_init_143 : decode cX11_init 143 = .ok (.newarray .int, 2) := by decide +kernel
theorem dX11_init_145 : decode cX11_init 145 = .ok (.putfield 56, 3) := by decide +kernel
theorem dX11_init_148 : decode cX11_init 148 = .ok (.aload_n 0, 1) := by decide +kernel
theorem dX11_init_149 : decode cX11_init 149 = .ok (.bipush 64, 2) := by decide +kernel
theorem dX11_init_151 : decode cX11_init 151 = .ok (.newarray .int, 2) := by decide +kernel
theorem dX11_init_153 : decode cX11_init 153 = .ok (.putfield 59, 3) := by decide +kernel
theorem dX11_init_156 : decode cX11_init 156 = .ok (.aload_n 0, 1) := by decide +kernel
theorem dX11_init_157 : decode cX11_init 157 = .ok (.bipush 64, 2) := by decide +kernel
theorem dX11_init_159 : decode cX11_init 159 = .ok (.newarray .int, 2) := by decide +kernel
theorem dX11_init_161 : decode cX11_init 161 = .ok (.putfield 62, 3) := by decide +kernel
theorem dX11_init_164 : decode cX11_init 164 = .ok (.aload_n 0, 1) := by decide +kernel
theorem dX11_init_165 : decode cX11_init 165 = .ok (.bipush 64, 2) := by decide +kernel
theorem dX11_init_167 : decode cX11_init 167 = .ok (.newarray .int, 2) := by decide +kernel
theorem dX11_init_169 : decode cX11_init 169 = .ok (.putfield 65, 3) := by decide +kernel
theorem dX11_init_172 : decode cX11_init 172 = .ok (.aload_n 0, 1) := by decide +kernel
theorem dX11_init_173 : decode cX11_init 173 = .ok (.bipush 64, 2) := by decide +kernel
theorem dX11_init_175 : decode cX11_init 175 = .ok (.newarray .int, 2) := by decide +kernel
theorem dX11_init_177 : decode cX11_init 177 = .ok (.putfield 68, 3) := by decide +kernel
theorem dX11_init_180 : decode cX11_init 180 = .ok (.aload_n 0, 1) := by decide +kernel
theorem dX11_init_181 : decode cX11_init 181 = .ok (.sipush 516, 3) := by decide +kernel
theorem dX11_init_184 : decode cX11_init 184 = .ok (.newarray .int, 2) := by decide +kernel
theorem dX11_init_186 : decode cX11_init 186 = .ok (.putfield 71, 3) := by decide +kernel
theorem dX11_init_189 : decode cX11_init 189 = .ok (.aload_n 0, 1) := by decide +kernel
theorem dX11_init_190 : decode cX11_init 190 = .ok (.sipush 4096, 3) := by decide +kernel
theorem dX11_init_193 : decode cX11_init 193 = .ok (.newarray .int, 2) := by decide +kernel
theorem dX11_init_195 : decode cX11_init 195 = .ok (.putfield 74, 3) := by decide +kernel
theorem dX11_init_198 : decode cX11_init 198 = .ok (.aload_n 0, 1) := by decide +kernel
theorem dX11_init_199 : decode cX11_init 199 = .ok (.bipush 42, 2) := by decide +kernel
theorem dX11_init_201 : decode cX11_init 201 = .ok (.newarray .int, 2) := by decide +kernel
theorem dX11_init_203 : decode cX11_init 203 = .ok (.putfield 77, 3) := by decide +kernel
theorem dX11_init_206 : decode cX11_init 206 = .ok (.aload_n 0, 1) := by decide +kernel
theorem dX11_init_207 : decode cX11_init 207 = .ok (.bipush 42, 2) := by decide +kernel
theorem dX11_init_209 : decode cX11_init 209 = .ok (.newarray .int, 2) := by decide +kernel
theorem dX11_init_211 : decode cX11_init 211 = .ok (.putfield 80, 3) := by decide +kernel
theorem dX11_init_214 : decode cX11_init 214 = .ok (.aload_n 0, 1) := by decide +kernel
theorem dX11_init_215 : decode cX11_init 215 = .ok (.bipush 8, 2) := by decide +kernel
theorem dX11_init_217 : decode cX11_init 217 = .ok (.newarray .int, 2) := by decide +kernel
theorem dX11_init_219 : decode cX11_init 219 = .ok (.putfield 83, 3) := by decide +kernel
theorem dX11_init_222 : decode cX11_init 222 = .ok (.aload_n 0, 1) := by decide +kernel
theorem dX11_init_223 : decode cX11_init 223 = .ok (.bipush 42, 2) := by decide +kernel
theorem dX11_init_225 : decode cX11_init 225 = .ok (.newarray .int, 2) := by decide +kernel
theorem dX11_init_227 : decode cX11_init 227 = .ok (.putfield 86, 3) := by decide +kernel
theorem dX11_init_230 : decode cX11_init 230 = .ok (.aload_n 0, 1) := by decide +kernel
theorem dX11_init_231 : decode cX11_init 231 = .ok (.bipush 42, 2) := by decide +kernel
theorem dX11_init_233 : decode cX11_init 233 = .ok (.newarray .int, 2) := by decide +kernel
theorem dX11_init_235 : decode cX11_init 235 = .ok (.putfield 89, 3) := by decide +kernel
theorem dX11_init_238 : decode cX11_init 238 = .ok (.aload_n 0, 1) := by decide +kernel
theorem dX11_init_239 : decode cX11_init 239 = .ok (.sipush 201, 3) := by decide +kernel
theorem dX11_init_242 : decode cX11_init 242 = .ok (.newarray .boolean, 2) := by decide +kernel
theorem dX11_init_244 : decode cX11_init 244 = .ok (.putfield 92, 3) := by decide +kernel
theorem dX11_init_247 : decode cX11_init 247 = .ok (.aload_n 0, 1) := by decide +kernel
theorem dX11_init_248 : decode cX11_init 248 = .ok (.sipush 201, 3) := by decide +kernel
theorem dX11_init_251 : decode cX11_init 251 = .ok (.newarray .boolean, 2) := by decide +kernel
theorem dX11_init_253 : decode cX11_init 253 = .ok (.putfield 95, 3) := by decide +kernel
theorem dX11_init_256 : decode cX11_init 256 = .ok (.aload_n 0, 1) := by decide +kernel
theorem dX11_init_257 : decode cX11_init 257 = .ok (.sipush 8040, 3) := by decide +kernel
theorem dX11_init_260 : decode cX11_init 260 = .ok (.newarray .boolean, 2) := by decide +kernel
theorem dX11_init_262 : decode cX11_init 262 = .ok (.putfield 98, 3) := by decide +kernel
theorem dX11_init_265 : decode cX11_init 265 = .ok (.aload_n 0, 1) := by decide +kernel
theorem dX11_init_266 : decode cX11_init 266 = .ok (.bipush 6, 2) := by decide +kernel
theorem dX11_init_268 : decode cX11_init 268 = .ok (.newarray .int, 2) := by decide +kernel
theorem dX11_init_270 : decode cX11_init 270 = .ok (.putfield 101, 3) := by decide +kernel
theorem dX11_init_273 : decode cX11_init 273 = .ok (.aload_n 0, 1) := by decide +kernel
theorem dX11_init_274 : decode cX11_init 274 = .ok (.bipush 40, 2) := by decide +kernel
theorem dX11_init_276 : decode cX11_init 276 = .ok (.newarray .boolean, 2) := by decide +kernel
theorem dX11_init_278 : decode cX11_init 278 = .ok (.putfield 104, 3) := by decide +kernel
theorem dX11_init_281 : decode cX11_init 281 = .ok (.aload_n 0, 1) := by decide +kernel
theorem dX11_init_282 : decode cX11_init 282 = .ok (.sipush 201, 3) := by decide +kernel
theorem dX11_init_285 : decode cX11_init 285 = .ok (.newarray .boolean, 2) := by decide +kernel
theorem dX11_init_287 : decode cX11_init 287 = .ok (.putfield 107, 3) := by decide +kernel
theorem dX11_init_290 : decode cX11_init 290 = .ok (.aload_n 0, 1) := by decide +kernel
theorem dX11_init_291 : decode cX11_init 291 = .ok (.sipush 402, 3) := by decide +kernel
theorem dX11_init_294 : decode cX11_init 294 = .ok (.newarray .int, 2) := by decide +kernel
theorem dX11_init_296 : decode cX11_init 296 = .ok (.putfield 110, 3) := by decide +kernel
theorem dX11_init_299 : decode cX11_init 299 = .ok (.aload_n 0, 1) := by decide +kernel
theorem dX11_init_300 : decode cX11_init 300 = .ok (.sipush 402, 3) := by decide +kernel
theorem dX11_init_303 : decode cX11_init 303 = .ok (.newarray .int, 2) := by decide +kernel
theorem dX11_init_305 : decode cX11_init 305 = .ok (.putfield 113, 3) := by decide +kernel
theorem dX11_init_308 : decode cX11_init 308 = .ok (.aload_n 0, 1) := by decide +kernel
theorem dX11_init_309 : decode cX11_init 309 = .ok (.sipush 402, 3) := by decide +kernel
theorem dX11_init_312 : decode cX11_init 312 = .ok (.newarray .int, 2) := by decide +kernel
theorem dX11_init_314 : decode cX11_init 314 = .ok (.putfield 116, 3) := by decide +kernel
theorem dX11_init_317 : decode cX11_init 317 = .ok (.return_, 1) := by decide +kernel
theorem dX11_refuse_0 : decode cX11_refuse 0 = .ok (.aload_n 0, 1) := by decide +kernel
theorem dX11_refuse_1 : decode cX11_refuse 1 = .ok (.iload_n 1, 1) := by decide +kernel
theorem dX11_refuse_2 : decode cX11_refuse 2 = .ok (.putfield 119, 3) := by decide +kernel
theorem dX11_refuse_5 : decode cX11_refuse 5 = .ok (.aload_n 0, 1) := by decide +kernel
theorem dX11_refuse_6 : decode cX11_refuse 6 = .ok (.dup, 1) := by decide +kernel
theorem dX11_refuse_7 : decode cX11_refuse 7 = .ok (.getfield 123, 3) := by decide +kernel
theorem dX11_refuse_10 : decode cX11_refuse 10 = .ok (.iload_n 1, 1) := by decide +kernel
theorem dX11_refuse_11 : decode cX11_refuse 11 = .ok (.bipush 7, 2) := by decide +kernel
theorem dX11_refuse_13 : decode cX11_refuse 13 = .ok (.if_icmp .ne 7, 3) := by decide +kernel
theorem dX11_refuse_20 : decode cX11_refuse 20 = .ok (.iconst 0, 1) := by decide +kernel
theorem dX11_refuse_21 : decode cX11_refuse 21 = .ok (.iadd, 1) := by decide +kernel
theorem dX11_refuse_22 : decode cX11_refuse 22 = .ok (.putfield 123, 3) := by decide +kernel
theorem dX11_refuse_25 : decode cX11_refuse 25 = .ok (.iconst (-1), 1) := by decide +kernel
theorem dX11_refuse_26 : decode cX11_refuse 26 = .ok (.ireturn, 1) := by decide +kernel
theorem dX11_no_0 : decode cX11_no 0 = .ok (.aload_n 0, 1) := by decide +kernel
theorem dX11_no_1 : decode cX11_no 1 = .ok (.iload_n 1, 1) := by decide +kernel
theorem dX11_no_2 : decode cX11_no 2 = .ok (.invokevirtual 126, 3) := by decide +kernel
theorem dX11_no_5 : decode cX11_no 5 = .ok (.iconst (-1), 1) := by decide +kernel
theorem dX11_no_6 : decode cX11_no 6 = .ok (.if_icmp .eq 7, 3) := by decide +kernel
theorem dX11_no_13 : decode cX11_no 13 = .ok (.iconst 0, 1) := by decide +kernel
theorem dX11_no_14 : decode cX11_no 14 = .ok (.ireturn, 1) := by decide +kernel
theorem dX11_isFeature_0 : decode cX11_isFeature 0 = .ok (.iload_n 1, 1) := by decide +kernel
theorem dX11_isFeature_1 : decode cX11_isFeature 1 = .ok (.ifCond .lt 15, 3) := by decide +kernel
theorem dX11_isFeature_16 : decode cX11_isFeature 16 = .ok (.iconst 0, 1) := by decide +kernel
theorem dX11_isFeature_17 : decode cX11_isFeature 17 = .ok (.ireturn, 1) := by decide +kernel
theorem dX11_isFeature_4 : decode cX11_isFeature 4 = .ok (.iload_n 1, 1) := by decide +kernel
theorem dX11_isFeature_5 : decode cX11_isFeature 5 = .ok (.aload_n 0, 1) := by decide +kernel
theorem dX11_isFeature_6 : decode cX11_isFeature 6 = .ok (.getfield 130, 3) := by decide +kernel
theorem dX11_isFeature_9 : decode cX11_isFeature 9 = .ok (.if_icmp .ge 7, 3) := by decide +kernel
theorem dX11_is_0 : decode cX11_is 0 = .ok (.aload_n 0, 1) := by decide +kernel
theorem dX11_is_1 : decode cX11_is 1 = .ok (.iload_n 1, 1) := by decide +kernel
theorem dX11_is_2 : decode cX11_is 2 = .ok (.invokevirtual 133, 3) := by decide +kernel
theorem dX11_is_5 : decode cX11_is 5 = .ok (.ifCond .eq 26, 3) := by decide +kernel
theorem dX11_is_31 : decode cX11_is 31 = .ok (.iconst 0, 1) := by decide +kernel
theorem dX11_is_32 : decode cX11_is 32 = .ok (.ireturn, 1) := by decide +kernel
theorem dX11_wrong_0 : decode cX11_wrong 0 = .ok (.aload_n 0, 1) := by decide +kernel
theorem dX11_wrong_1 : decode cX11_wrong 1 = .ok (.iload_n 1, 1) := by decide +kernel
theorem dX11_wrong_2 : decode cX11_wrong 2 = .ok (.invokevirtual 133, 3) := by decide +kernel
theorem dX11_wrong_5 : decode cX11_wrong 5 = .ok (.ifCond .ne 7, 3) := by decide +kernel
theorem dX11_wrong_8 : decode cX11_wrong 8 = .ok (.iconst 1, 1) := by decide +kernel
theorem dX11_wrong_9 : decode cX11_wrong 9 = .ok (.goto 18, 3) := by decide +kernel
theorem dX11_wrong_27 : decode cX11_wrong 27 = .ok (.ireturn, 1) := by decide +kernel
theorem dX11_begin_0 : decode cX11_begin 0 = .ok (.aload_n 0, 1) := by decide +kernel
theorem dX11_begin_1 : decode cX11_begin 1 = .ok (.iload_n 1, 1) := by decide +kernel
theorem dX11_begin_2 : decode cX11_begin 2 = .ok (.iconst 1, 1) := by decide +kernel
theorem dX11_begin_3 : decode cX11_begin 3 = .ok (.iadd, 1) := by decide +kernel
theorem dX11_begin_4 : decode cX11_begin 4 = .ok (.putfield 130, 3) := by decide +kernel
theorem dX11_begin_7 : decode cX11_begin 7 = .ok (.aload_n 0, 1) := by decide +kernel
theorem dX11_begin_8 : decode cX11_begin 8 = .ok (.getfield 7, 3) := by decide +kernel
theorem dX11_begin_11 : decode cX11_begin 11 = .ok (.iload_n 1, 1) := by decide +kernel
theorem dX11_begin_12 : decode cX11_begin 12 = .ok (.iload_n 2, 1) := by decide +kernel
theorem dX11_begin_13 : decode cX11_begin 13 = .ok (.iastore, 1) := by decide +kernel
theorem dX11_begin_14 : decode cX11_begin 14 = .ok (.aload_n 0, 1) := by decide +kernel
theorem dX11_begin_15 : decode cX11_begin 15 = .ok (.getfield 13, 3) := by decide +kernel
theorem dX11_begin_18 : decode cX11_begin 18 = .ok (.iload_n 1, 1) := by decide +kernel
theorem dX11_begin_19 : decode cX11_begin 19 = .ok (.iload_n 3, 1) := by decide +kernel
theorem dX11_begin_20 : decode cX11_begin 20 = .ok (.iastore, 1) := by decide +kernel
theorem dX11_begin_21 : decode cX11_begin 21 = .ok (.aload_n 0, 1) := by decide +kernel
theorem dX11_begin_22 : decode cX11_begin 22 = .ok (.getfield 16, 3) := by decide +kernel
theorem dX11_begin_25 : decode cX11_begin 25 = .ok (.iload_n 1, 1) := by decide +kernel
theorem dX11_begin_26 : decode cX11_begin 26 = .ok (.iload 4, 2) := by decide +kernel
theorem dX11_begin_28 : decode cX11_begin 28 = .ok (.iastore, 1) := by decide +kernel
theorem dX11_begin_29 : decode cX11_begin 29 = .ok (.aload_n 0, 1) := by decide +kernel
theorem dX11_begin_30 : decode cX11_begin 30 = .ok (.getfield 19, 3) := by decide +kernel
theorem dX11_begin_33 : decode cX11_begin 33 = .ok (.iload_n 1, 1) := by decide +kernel
theorem dX11_begin_34 : decode cX11_begin 34 = .ok (.iload 5, 2) := by decide +kernel
theorem dX11_begin_36 : decode cX11_begin 36 = .ok (.iastore, 1) := by decide +kernel
theorem dX11_begin_37 : decode cX11_begin 37 = .ok (.aload_n 0, 1) := by decide +kernel
theorem dX11_begin_38 : decode cX11_begin 38 = .ok (.getfield 22, 3) := by decide +kernel
theorem dX11_begin_41 : decode cX11_begin 41 = .ok (.iload_n 1, 1) := by decide +kernel
theorem dX11_begin_42 : decode cX11_begin 42 = .ok (.iconst 0, 1) := by decide +kernel
theorem dX11_begin_43 : decode cX11_begin 43 = .ok (.iastore, 1) := by decide +kernel
theorem dX11_begin_44 : decode cX11_begin 44 = .ok (.aload_n 0, 1) := by decide +kernel
theorem dX11_begin_45 : decode cX11_begin 45 = .ok (.getfield 25, 3) := by decide +kernel
theorem dX11_begin_48 : decode cX11_begin 48 = .ok (.iload_n 1, 1) := by decide +kernel
theorem dX11_begin_49 : decode cX11_begin 49 = .ok (.iconst 0, 1) := by decide +kernel
theorem dX11_begin_50 : decode cX11_begin 50 = .ok (.bastore, 1) := by decide +kernel
theorem dX11_begin_51 : decode cX11_begin 51 = .ok (.aload_n 0, 1) := by decide +kernel
theorem dX11_begin_52 : decode cX11_begin 52 = .ok (.getfield 29, 3) := by decide +kernel
theorem dX11_begin_55 : decode cX11_begin 55 = .ok (.iload_n 1, 1) := by decide +kernel
theorem dX11_begin_56 : decode cX11_begin 56 = .ok (.iconst 0, 1) := by decide +kernel
theorem dX11_begin_57 : decode cX11_begin 57 = .ok (.iastore, 1) := by decide +kernel
theorem dX11_begin_58 : decode cX11_begin 58 = .ok (.aload_n 0, 1) := by decide +kernel
theorem dX11_begin_59 : decode cX11_begin 59 = .ok (.getfield 32, 3) := by decide +kernel
theorem dX11_begin_62 : decode cX11_begin 62 = .ok (.iload_n 1, 1) := by decide +kernel
theorem dX11_begin_63 : decode cX11_begin 63 = .ok (.iconst (-1), 1) := by decide +kernel
theorem dX11_begin_64 : decode cX11_begin 64 = .ok (.iastore, 1) := by decide +kernel
theorem dX11_begin_65 : decode cX11_begin 65 = .ok (.aload_n 0, 1) := by decide +kernel
theorem dX11_begin_66 : decode cX11_begin 66 = .ok (.getfield 35, 3) := by decide +kernel
theorem dX11_begin_69 : decode cX11_begin 69 = .ok (.iload_n 1, 1) := by decide +kernel
theorem dX11_begin_70 : decode cX11_begin 70 = .ok (.iconst (-1), 1) := by decide +kernel
theorem dX11_begin_71 : decode cX11_begin 71 = .ok (.iastore, 1) := by decide +kernel
theorem dX11_begin_72 : decode cX11_begin 72 = .ok (.aload_n 0, 1) := by decide +kernel
theorem dX11_begin_73 : decode cX11_begin 73 = .ok (.getfield 38, 3) := by decide +kernel
theorem dX11_begin_76 : decode cX11_begin 76 = .ok (.iload_n 1, 1) := by decide +kernel
theorem dX11_begin_77 : decode cX11_begin 77 = .ok (.iconst (-1), 1) := by decide +kernel
theorem dX11_begin_78 : decode cX11_begin 78 = .ok (.iastore, 1) := by decide +kernel
theorem dX11_begin_79 : decode cX11_begin 79 = .ok (.aload_n 0, 1) := by decide +kernel
theorem dX11_begin_80 : decode cX11_begin 80 = .ok (.getfield 41, 3) := by decide +kernel
theorem dX11_begin_83 : decode cX11_begin 83 = .ok (.iload_n 1, 1) := by decide +kernel
theorem dX11_begin_84 : decode cX11_begin 84 = .ok (.iconst 0, 1) := by decide +kernel
theorem dX11_begin_85 : decode cX11_begin 85 = .ok (.iastore, 1) := by decide +kernel
theorem dX11_begin_86 : decode cX11_begin 86 = .ok (.return_, 1) := by decide +kernel
theorem dX11_settle_0 : decode cX11_settle 0 = .ok (.aload_n 0, 1) := by decide +kernel
theorem dX11_settle_1 : decode cX11_settle 1 = .ok (.aload_n 0, 1) := by decide +kernel
theorem dX11_settle_2 : decode cX11_settle 2 = .ok (.getfield 257, 3) := by decide +kernel
theorem dX11_settle_5 : decode cX11_settle 5 = .ok (.putfield 260, 3) := by decide +kernel
theorem dX11_settle_8 : decode cX11_settle 8 = .ok (.aload_n 0, 1) := by decide +kernel
theorem dX11_settle_9 : decode cX11_settle 9 = .ok (.iconst 0, 1) := by decide +kernel
theorem dX11_settle_10 : decode cX11_settle 10 = .ok (.putfield 263, 3) := by decide +kernel
theorem dX11_settle_13 : decode cX11_settle 13 = .ok (.aload_n 0, 1) := by decide +kernel
theorem dX11_settle_14 : decode cX11_settle 14 = .ok (.getfield 71, 3) := by decide +kernel
theorem dX11_settle_17 : decode cX11_settle 17 = .ok (.iconst 0, 1) := by decide +kernel
theorem dX11_settle_18 : decode cX11_settle 18 = .ok (.iconst 0, 1) := by decide +kernel
theorem dX11_settle_19 : decode cX11_settle 19 = .ok (.iastore, 1) := by decide +kernel
theorem dX11_settle_20 : decode cX11_settle 20 = .ok (.return_, 1) := by decide +kernel
theorem dX11_write_0 : decode cX11_write 0 = .ok (.aload_n 0, 1) := by decide +kernel
theorem dX11_write_1 : decode cX11_write 1 = .ok (.getfield 244, 3) := by decide +kernel
theorem dX11_write_4 : decode cX11_write 4 = .ok (.aload_n 0, 1) := by decide +kernel
theorem dX11_write_5 : decode cX11_write 5 = .ok (.getfield 74, 3) := by decide +kernel
theorem dX11_write_8 : decode cX11_write 8 = .ok (.arraylength, 1) := by decide +kernel
theorem dX11_write_9 : decode cX11_write 9 = .ok (.if_icmp .ne 42, 3) := by decide +kernel
theorem dX11_write_51 : decode cX11_write 51 = .ok (.aload_n 0, 1) := by decide +kernel
theorem dX11_write_52 : decode cX11_write 52 = .ok (.getfield 74, 3) := by decide +kernel
theorem dX11_write_55 : decode cX11_write 55 = .ok (.aload_n 0, 1) := by decide +kernel
theorem dX11_write_56 : decode cX11_write 56 = .ok (.getfield 244, 3) := by decide +kernel
theorem dX11_write_59 : decode cX11_write 59 = .ok (.iload_n 1, 1) := by decide +kernel
theorem dX11_write_60 : decode cX11_write 60 = .ok (.iastore, 1) := by decide +kernel
theorem dX11_write_61 : decode cX11_write 61 = .ok (.aload_n 0, 1) := by decide +kernel
theorem dX11_write_62 : decode cX11_write 62 = .ok (.dup, 1) := by decide +kernel
theorem dX11_write_63 : decode cX11_write 63 = .ok (.getfield 244, 3) := by decide +kernel
theorem dX11_write_66 : decode cX11_write 66 = .ok (.iconst 1, 1) := by decide +kernel
theorem dX11_write_67 : decode cX11_write 67 = .ok (.iadd, 1) := by decide +kernel
theorem dX11_write_68 : decode cX11_write 68 = .ok (.putfield 244, 3) := by decide +kernel
theorem dX11_write_71 : decode cX11_write 71 = .ok (.return_, 1) := by decide +kernel
theorem dX11_keep_0 : decode cX11_keep 0 = .ok (.aload_n 0, 1) := by decide +kernel
theorem dX11_keep_1 : decode cX11_keep 1 = .ok (.aload_n 0, 1) := by decide +kernel
theorem dX11_keep_2 : decode cX11_keep 2 = .ok (.getfield 71, 3) := by decide +kernel
theorem dX11_keep_5 : decode cX11_keep 5 = .ok (.iload_n 1, 1) := by decide +kernel
theorem dX11_keep_6 : decode cX11_keep 6 = .ok (.iaload, 1) := by decide +kernel
theorem dX11_keep_7 : decode cX11_keep 7 = .ok (.putfield 244, 3) := by decide +kernel
theorem dX11_keep_10 : decode cX11_keep 10 = .ok (.aload_n 0, 1) := by decide +kernel
theorem dX11_keep_11 : decode cX11_keep 11 = .ok (.aload_n 0, 1) := by decide +kernel
theorem dX11_keep_12 : decode cX11_keep 12 = .ok (.getfield 130, 3) := by decide +kernel
theorem dX11_keep_15 : decode cX11_keep 15 = .ok (.invokevirtual 247, 3) := by decide +kernel
