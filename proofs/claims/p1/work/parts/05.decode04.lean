theorem dX11_keep_18 : decode cX11_keep 18 = .ok (.iconst 0, 1) := by decide +kernel
theorem dX11_keep_19 : decode cX11_keep 19 = .ok (.istore_n 2, 1) := by decide +kernel
theorem dX11_keep_20 : decode cX11_keep 20 = .ok (.iload_n 2, 1) := by decide +kernel
theorem dX11_keep_21 : decode cX11_keep 21 = .ok (.aload_n 0, 1) := by decide +kernel
theorem dX11_keep_22 : decode cX11_keep 22 = .ok (.getfield 130, 3) := by decide +kernel
theorem dX11_keep_25 : decode cX11_keep 25 = .ok (.if_icmp .ge 180, 3) := by decide +kernel
theorem dX11_keep_205 : decode cX11_keep 205 = .ok (.aload_n 0, 1) := by decide +kernel
theorem dX11_keep_206 : decode cX11_keep 206 = .ok (.getfield 71, 3) := by decide +kernel
theorem dX11_keep_209 : decode cX11_keep 209 = .ok (.iload_n 1, 1) := by decide +kernel
theorem dX11_keep_210 : decode cX11_keep 210 = .ok (.iconst 1, 1) := by decide +kernel
theorem dX11_keep_211 : decode cX11_keep 211 = .ok (.iadd, 1) := by decide +kernel
theorem dX11_keep_212 : decode cX11_keep 212 = .ok (.aload_n 0, 1) := by decide +kernel
theorem dX11_keep_213 : decode cX11_keep 213 = .ok (.getfield 244, 3) := by decide +kernel
theorem dX11_keep_216 : decode cX11_keep 216 = .ok (.iastore, 1) := by decide +kernel
theorem dX11_keep_217 : decode cX11_keep 217 = .ok (.return_, 1) := by decide +kernel
theorem dX11_begins_0 : decode cX11_begins 0 = .ok (.aload_n 0, 1) := by decide +kernel
theorem dX11_begins_1 : decode cX11_begins 1 = .ok (.aload_n 0, 1) := by decide +kernel
theorem dX11_begins_2 : decode cX11_begins 2 = .ok (.getfield 257, 3) := by decide +kernel
theorem dX11_begins_5 : decode cX11_begins 5 = .ok (.aload_n 0, 1) := by decide +kernel
theorem dX11_begins_6 : decode cX11_begins 6 = .ok (.getfield 260, 3) := by decide +kernel
theorem dX11_begins_9 : decode cX11_begins 9 = .ok (.isub, 1) := by decide +kernel
theorem dX11_begins_10 : decode cX11_begins 10 = .ok (.invokevirtual 266, 3) := by decide +kernel
theorem dX11_begins_13 : decode cX11_begins 13 = .ok (.return_, 1) := by decide +kernel
theorem dX11_tell_0 : decode cX11_tell 0 = .ok (.aload_n 0, 1) := by decide +kernel
theorem dX11_tell_1 : decode cX11_tell 1 = .ok (.invokevirtual 322, 3) := by decide +kernel
theorem dX11_tell_4 : decode cX11_tell 4 = .ok (.iconst 0, 1) := by decide +kernel
theorem dX11_tell_5 : decode cX11_tell 5 = .ok (.istore 4, 2) := by decide +kernel
theorem dX11_tell_7 : decode cX11_tell 7 = .ok (.aload_n 0, 1) := by decide +kernel
theorem dX11_tell_8 : decode cX11_tell 8 = .ok (.getfield 279, 3) := by decide +kernel
theorem dX11_tell_11 : decode cX11_tell 11 = .ok (.istore 5, 2) := by decide +kernel
theorem dX11_tell_13 : decode cX11_tell 13 = .ok (.iload_n 1, 1) := by decide +kernel
theorem dX11_tell_14 : decode cX11_tell 14 = .ok (.iconst 1, 1) := by decide +kernel
theorem dX11_tell_15 : decode cX11_tell 15 = .ok (.if_icmp .ne 20, 3) := by decide +kernel
theorem dX11_tell_35 : decode cX11_tell 35 = .ok (.iconst 1, 1) := by decide +kernel
theorem dX11_tell_36 : decode cX11_tell 36 = .ok (.istore 6, 2) := by decide +kernel
theorem dX11_tell_38 : decode cX11_tell 38 = .ok (.iload 6, 2) := by decide +kernel
theorem dX11_tell_40 : decode cX11_tell 40 = .ok (.ifCond .eq 82, 3) := by decide +kernel
theorem dX11_tell_43 : decode cX11_tell 43 = .ok (.iload 4, 2) := by decide +kernel
theorem dX11_tell_45 : decode cX11_tell 45 = .ok (.istore 7, 2) := by decide +kernel
theorem dX11_tell_47 : decode cX11_tell 47 = .ok (.iconst 0, 1) := by decide +kernel
theorem dX11_tell_48 : decode cX11_tell 48 = .ok (.istore 8, 2) := by decide +kernel
theorem dX11_tell_50 : decode cX11_tell 50 = .ok (.iload 8, 2) := by decide +kernel
theorem dX11_tell_52 : decode cX11_tell 52 = .ok (.aload_n 0, 1) := by decide +kernel
theorem dX11_tell_53 : decode cX11_tell 53 = .ok (.getfield 130, 3) := by decide +kernel
theorem dX11_tell_56 : decode cX11_tell 56 = .ok (.if_icmp .ge 49, 3) := by decide +kernel
theorem dX11_tell_105 : decode cX11_tell 105 = .ok (.iload 4, 2) := by decide +kernel
theorem dX11_tell_107 : decode cX11_tell 107 = .ok (.iload 7, 2) := by decide +kernel
theorem dX11_tell_109 : decode cX11_tell 109 = .ok (.if_icmp .le 7, 3) := by decide +kernel
theorem dX11_tell_116 : decode cX11_tell 116 = .ok (.iconst 0, 1) := by decide +kernel
theorem dX11_tell_117 : decode cX11_tell 117 = .ok (.istore 6, 2) := by decide +kernel
theorem dX11_tell_119 : decode cX11_tell 119 = .ok (.goto (-81), 3) := by decide +kernel
theorem dX11_tell_122 : decode cX11_tell 122 = .ok (.iload 4, 2) := by decide +kernel
theorem dX11_tell_124 : decode cX11_tell 124 = .ok (.ifCond .ne 10, 3) := by decide +kernel
theorem dX11_tell_127 : decode cX11_tell 127 = .ok (.aload_n 0, 1) := by decide +kernel
theorem dX11_tell_128 : decode cX11_tell 128 = .ok (.bipush 8, 2) := by decide +kernel
theorem dX11_tell_130 : decode cX11_tell 130 = .ok (.invokevirtual 126, 3) := by decide +kernel
theorem dX11_tell_133 : decode cX11_tell 133 = .ok (.ireturn, 1) := by decide +kernel
theorem dX11_dropMarked_0 : decode cX11_dropMarked 0 = .ok (.iconst 0, 1) := by decide +kernel
theorem dX11_dropMarked_1 : decode cX11_dropMarked 1 = .ok (.istore_n 2, 1) := by decide +kernel
theorem dX11_dropMarked_2 : decode cX11_dropMarked 2 = .ok (.iconst 0, 1) := by decide +kernel
theorem dX11_dropMarked_3 : decode cX11_dropMarked 3 = .ok (.istore_n 3, 1) := by decide +kernel
theorem dX11_dropMarked_4 : decode cX11_dropMarked 4 = .ok (.iload_n 3, 1) := by decide +kernel
theorem dX11_dropMarked_5 : decode cX11_dropMarked 5 = .ok (.aload_n 0, 1) := by decide +kernel
theorem dX11_dropMarked_6 : decode cX11_dropMarked 6 = .ok (.getfield 130, 3) := by decide +kernel
theorem dX11_dropMarked_9 : decode cX11_dropMarked 9 = .ok (.if_icmp .ge 26, 3) := by decide +kernel
theorem dX11_dropMarked_35 : decode cX11_dropMarked 35 = .ok (.iload_n 2, 1) := by decide +kernel
theorem dX11_dropMarked_36 : decode cX11_dropMarked 36 = .ok (.ifCond .ne 10, 3) := by decide +kernel
theorem dX11_dropMarked_39 : decode cX11_dropMarked 39 = .ok (.aload_n 0, 1) := by decide +kernel
theorem dX11_dropMarked_40 : decode cX11_dropMarked 40 = .ok (.bipush 8, 2) := by decide +kernel
theorem dX11_dropMarked_42 : decode cX11_dropMarked 42 = .ok (.invokevirtual 126, 3) := by decide +kernel
theorem dX11_dropMarked_45 : decode cX11_dropMarked 45 = .ok (.ireturn, 1) := by decide +kernel
theorem dX11_feature_0 : decode cX11_feature 0 = .ok (.iload_n 1, 1) := by decide +kernel
theorem dX11_feature_1 : decode cX11_feature 1 = .ok (.ifCond .lt 41, 3) := by decide +kernel
theorem dX11_feature_42 : decode cX11_feature 42 = .ok (.aload_n 0, 1) := by decide +kernel
theorem dX11_feature_43 : decode cX11_feature 43 = .ok (.iconst 4, 1) := by decide +kernel
theorem dX11_feature_44 : decode cX11_feature 44 = .ok (.invokevirtual 126, 3) := by decide +kernel
theorem dX11_feature_47 : decode cX11_feature 47 = .ok (.ireturn, 1) := by decide +kernel
theorem dX11_feature_4 : decode cX11_feature 4 = .ok (.iload_n 1, 1) := by decide +kernel
theorem dX11_feature_5 : decode cX11_feature 5 = .ok (.bipush 6, 2) := by decide +kernel
theorem dX11_feature_7 : decode cX11_feature 7 = .ok (.if_icmp .gt 35, 3) := by decide +kernel
theorem dX11_feature_10 : decode cX11_feature 10 = .ok (.iload_n 2, 1) := by decide +kernel
theorem dX11_feature_11 : decode cX11_feature 11 = .ok (.ifCond .lt 31, 3) := by decide +kernel
theorem dX11_feature_14 : decode cX11_feature 14 = .ok (.iload_n 2, 1) := by decide +kernel
theorem dX11_feature_15 : decode cX11_feature 15 = .ok (.bipush 9, 2) := by decide +kernel
theorem dX11_feature_17 : decode cX11_feature 17 = .ok (.if_icmp .gt 25, 3) := by decide +kernel
theorem dX11_feature_20 : decode cX11_feature 20 = .ok (.iload_n 3, 1) := by decide +kernel
theorem dX11_feature_21 : decode cX11_feature 21 = .ok (.ifCond .lt 21, 3) := by decide +kernel
theorem dX11_feature_24 : decode cX11_feature 24 = .ok (.iload_n 3, 1) := by decide +kernel
theorem dX11_feature_25 : decode cX11_feature 25 = .ok (.bipush 100, 2) := by decide +kernel
theorem dX11_feature_27 : decode cX11_feature 27 = .ok (.if_icmp .gt 15, 3) := by decide +kernel
theorem dX11_feature_30 : decode cX11_feature 30 = .ok (.iload 4, 2) := by decide +kernel
theorem dX11_feature_32 : decode cX11_feature 32 = .ok (.ifCond .lt 10, 3) := by decide +kernel
theorem dX11_feature_35 : decode cX11_feature 35 = .ok (.iload 4, 2) := by decide +kernel
theorem dX11_feature_37 : decode cX11_feature 37 = .ok (.bipush 9, 2) := by decide +kernel
theorem dX11_feature_39 : decode cX11_feature 39 = .ok (.if_icmp .le 9, 3) := by decide +kernel
theorem dX11_feature_48 : decode cX11_feature 48 = .ok (.aload_n 0, 1) := by decide +kernel
theorem dX11_feature_49 : decode cX11_feature 49 = .ok (.getfield 130, 3) := by decide +kernel
theorem dX11_feature_52 : decode cX11_feature 52 = .ok (.sipush 200, 3) := by decide +kernel
theorem dX11_feature_55 : decode cX11_feature 55 = .ok (.if_icmp .ne 10, 3) := by decide +kernel
theorem dX11_feature_65 : decode cX11_feature 65 = .ok (.aload_n 0, 1) := by decide +kernel
theorem dX11_feature_66 : decode cX11_feature 66 = .ok (.getfield 130, 3) := by decide +kernel
theorem dX11_feature_69 : decode cX11_feature 69 = .ok (.istore 5, 2) := by decide +kernel
theorem dX11_feature_71 : decode cX11_feature 71 = .ok (.aload_n 0, 1) := by decide +kernel
theorem dX11_feature_72 : decode cX11_feature 72 = .ok (.iload 5, 2) := by decide +kernel
theorem dX11_feature_74 : decode cX11_feature 74 = .ok (.iload_n 1, 1) := by decide +kernel
theorem dX11_feature_75 : decode cX11_feature 75 = .ok (.iload_n 2, 1) := by decide +kernel
theorem dX11_feature_76 : decode cX11_feature 76 = .ok (.iload_n 3, 1) := by decide +kernel
theorem dX11_feature_77 : decode cX11_feature 77 = .ok (.iload 4, 2) := by decide +kernel
theorem dX11_feature_79 : decode cX11_feature 79 = .ok (.invokevirtual 269, 3) := by decide +kernel
theorem dX11_feature_82 : decode cX11_feature 82 = .ok (.aload_n 0, 1) := by decide +kernel
theorem dX11_feature_83 : decode cX11_feature 83 = .ok (.invokevirtual 273, 3) := by decide +kernel
theorem dX11_feature_86 : decode cX11_feature 86 = .ok (.aload_n 0, 1) := by decide +kernel
theorem dX11_feature_87 : decode cX11_feature 87 = .ok (.iconst 0, 1) := by decide +kernel
theorem dX11_feature_88 : decode cX11_feature 88 = .ok (.putfield 119, 3) := by decide +kernel
theorem dX11_feature_91 : decode cX11_feature 91 = .ok (.iload 5, 2) := by decide +kernel
theorem dX11_feature_93 : decode cX11_feature 93 = .ok (.ireturn, 1) := by decide +kernel
theorem dX11_corner_0 : decode cX11_corner 0 = .ok (.aload_n 0, 1) := by decide +kernel
theorem dX11_corner_1 : decode cX11_corner 1 = .ok (.iload_n 1, 1) := by decide +kernel
theorem dX11_corner_2 : decode cX11_corner 2 = .ok (.invokevirtual 133, 3) := by decide +kernel
theorem dX11_corner_5 : decode cX11_corner 5 = .ok (.ifCond .ne 9, 3) := by decide +kernel
theorem dX11_corner_8 : decode cX11_corner 8 = .ok (.aload_n 0, 1) := by decide +kernel
theorem dX11_corner_9 : decode cX11_corner 9 = .ok (.iconst 1, 1) := by decide +kernel
theorem dX11_corner_10 : decode cX11_corner 10 = .ok (.invokevirtual 126, 3) := by decide +kernel
theorem dX11_corner_13 : decode cX11_corner 13 = .ok (.ireturn, 1) := by decide +kernel
theorem dX11_tear_0 : decode cX11_tear 0 = .ok (.aload_n 0, 1) := by decide +kernel
theorem dX11_tear_1 : decode cX11_tear 1 = .ok (.iload_n 1, 1) := by decide +kernel
theorem dX11_tear_2 : decode cX11_tear 2 = .ok (.invokevirtual 133, 3) := by decide +kernel
theorem dX11_tear_5 : decode cX11_tear 5 = .ok (.ifCond .ne 9, 3) := by decide +kernel
theorem dX11_tear_8 : decode cX11_tear 8 = .ok (.aload_n 0, 1) := by decide +kernel
theorem dX11_tear_9 : decode cX11_tear 9 = .ok (.iconst 1, 1) := by decide +kernel
theorem dX11_tear_10 : decode cX11_tear 10 = .ok (.invokevirtual 276, 3) := by decide +kernel
theorem dX11_tear_13 : decode cX11_tear 13 = .ok (.ireturn, 1) := by decide +kernel
theorem dX11_done_0 : decode cX11_done 0 = .ok (.aload_n 0, 1) := by decide +kernel
theorem dX11_done_1 : decode cX11_done 1 = .ok (.iload_n 1, 1) := by decide +kernel
theorem dX11_done_2 : decode cX11_done 2 = .ok (.invokevirtual 133, 3) := by decide +kernel
theorem dX11_done_5 : decode cX11_done 5 = .ok (.ifCond .ne 9, 3) := by decide +kernel
theorem dX11_done_8 : decode cX11_done 8 = .ok (.aload_n 0, 1) := by decide +kernel
theorem dX11_done_9 : decode cX11_done 9 = .ok (.iconst 1, 1) := by decide +kernel
theorem dX11_done_10 : decode cX11_done 10 = .ok (.invokevirtual 276, 3) := by decide +kernel
theorem dX11_done_13 : decode cX11_done 13 = .ok (.ireturn, 1) := by decide +kernel
theorem dX11_plainer_0 : decode cX11_plainer 0 = .ok (.aload_n 0, 1) := by decide +kernel
theorem dX11_plainer_1 : decode cX11_plainer 1 = .ok (.iload_n 1, 1) := by decide +kernel
theorem dX11_plainer_2 : decode cX11_plainer 2 = .ok (.invokevirtual 312, 3) := by decide +kernel
theorem dX11_plainer_5 : decode cX11_plainer 5 = .ok (.istore_n 3, 1) := by decide +kernel
theorem dX11_plainer_6 : decode cX11_plainer 6 = .ok (.iload_n 3, 1) := by decide +kernel
theorem dX11_plainer_7 : decode cX11_plainer 7 = .ok (.ifCond .le 7, 3) := by decide +kernel
theorem dX11_plainer_10 : decode cX11_plainer 10 = .ok (.iload_n 3, 1) := by decide +kernel
theorem dX11_plainer_11 : decode cX11_plainer 11 = .ok (.goto 37, 3) := by decide +kernel
theorem dX11_plainer_48 : decode cX11_plainer 48 = .ok (.istore_n 3, 1) := by decide +kernel
theorem dX11_plainer_49 : decode cX11_plainer 49 = .ok (.iload_n 3, 1) := by decide +kernel
theorem dX11_plainer_50 : decode cX11_plainer 50 = .ok (.ifCond .le 9, 3) := by decide +kernel
theorem dX11_plainer_53 : decode cX11_plainer 53 = .ok (.aload_n 0, 1) := by decide +kernel
theorem dX11_plainer_54 : decode cX11_plainer 54 = .ok (.iload_n 3, 1) := by decide +kernel
theorem dX11_plainer_55 : decode cX11_plainer 55 = .ok (.invokevirtual 126, 3) := by decide +kernel
theorem dX11_plainer_58 : decode cX11_plainer 58 = .ok (.ireturn, 1) := by decide +kernel
theorem dX11_smooth_0 : decode cX11_smooth 0 = .ok (.aload_n 0, 1) := by decide +kernel
theorem dX11_smooth_1 : decode cX11_smooth 1 = .ok (.iload_n 1, 1) := by decide +kernel
theorem dX11_smooth_2 : decode cX11_smooth 2 = .ok (.invokevirtual 312, 3) := by decide +kernel
theorem dX11_smooth_5 : decode cX11_smooth 5 = .ok (.istore_n 2, 1) := by decide +kernel
theorem dX11_smooth_6 : decode cX11_smooth 6 = .ok (.iload_n 2, 1) := by decide +kernel
theorem dX11_smooth_7 : decode cX11_smooth 7 = .ok (.ifCond .le 7, 3) := by decide +kernel
theorem dX11_smooth_10 : decode cX11_smooth 10 = .ok (.iload_n 2, 1) := by decide +kernel
theorem dX11_smooth_11 : decode cX11_smooth 11 = .ok (.goto 29, 3) := by decide +kernel
theorem dX11_smooth_40 : decode cX11_smooth 40 = .ok (.istore_n 2, 1) := by decide +kernel
theorem dX11_smooth_41 : decode cX11_smooth 41 = .ok (.iload_n 2, 1) := by decide +kernel
theorem dX11_smooth_42 : decode cX11_smooth 42 = .ok (.ifCond .le 9, 3) := by decide +kernel
theorem dX11_smooth_45 : decode cX11_smooth 45 = .ok (.aload_n 0, 1) := by decide +kernel
theorem dX11_smooth_46 : decode cX11_smooth 46 = .ok (.iload_n 2, 1) := by decide +kernel
theorem dX11_smooth_47 : decode cX11_smooth 47 = .ok (.invokevirtual 276, 3) := by decide +kernel
theorem dX11_smooth_50 : decode cX11_smooth 50 = .ok (.ireturn, 1) := by decide +kernel
theorem dX11_shift_0 : decode cX11_shift 0 = .ok (.aload_n 0, 1) := by decide +kernel
theorem dX11_shift_1 : decode cX11_shift 1 = .ok (.iload_n 1, 1) := by decide +kernel
theorem dX11_shift_2 : decode cX11_shift 2 = .ok (.invokevirtual 133, 3) := by decide +kernel
theorem dX11_shift_5 : decode cX11_shift 5 = .ok (.ifCond .eq 30, 3) := by decide +kernel
theorem dX11_shift_35 : decode cX11_shift 35 = .ok (.iconst 0, 1) := by decide +kernel
theorem dX11_shift_36 : decode cX11_shift 36 = .ok (.istore 6, 2) := by decide +kernel
theorem dX11_shift_38 : decode cX11_shift 38 = .ok (.aload_n 0, 1) := by decide +kernel
theorem dX11_shift_39 : decode cX11_shift 39 = .ok (.iload_n 1, 1) := by decide +kernel
theorem dX11_shift_40 : decode cX11_shift 40 = .ok (.invokevirtual 133, 3) := by decide +kernel
theorem dX11_shift_43 : decode cX11_shift 43 = .ok (.ifCond .eq 8, 3) := by decide +kernel
theorem dX11_shift_51 : decode cX11_shift 51 = .ok (.iconst 1, 1) := by decide +kernel
theorem dX11_shift_52 : decode cX11_shift 52 = .ok (.goto 18, 3) := by decide +kernel
theorem dX11_shift_70 : decode cX11_shift 70 = .ok (.istore 7, 2) := by decide +kernel
theorem dX11_shift_72 : decode cX11_shift 72 = .ok (.iload_n 3, 1) := by decide +kernel
theorem dX11_shift_73 : decode cX11_shift 73 = .ok (.sipush (-200), 3) := by decide +kernel
theorem dX11_shift_76 : decode cX11_shift 76 = .ok (.if_icmp .lt 38, 3) := by decide +kernel
theorem dX11_shift_114 : decode cX11_shift 114 = .ok (.iconst 1, 1) := by decide +kernel
theorem dX11_shift_115 : decode cX11_shift 115 = .ok (.goto 4, 3) := by decide +kernel
theorem dX11_shift_119 : decode cX11_shift 119 = .ok (.istore 8, 2) := by decide +kernel
theorem dX11_shift_121 : decode cX11_shift 121 = .ok (.iload 7, 2) := by decide +kernel
theorem dX11_shift_123 : decode cX11_shift 123 = .ok (.ifCond .le 8, 3) := by decide +kernel
theorem dX11_shift_126 : decode cX11_shift 126 = .ok (.iload 7, 2) := by decide +kernel
theorem dX11_shift_128 : decode cX11_shift 128 = .ok (.goto 26, 3) := by decide +kernel
theorem dX11_shift_154 : decode cX11_shift 154 = .ok (.istore 7, 2) := by decide +kernel
theorem dX11_shift_156 : decode cX11_shift 156 = .ok (.iload 7, 2) := by decide +kernel
theorem dX11_shift_158 : decode cX11_shift 158 = .ok (.ifCond .le 10, 3) := by decide +kernel
theorem dX11_shift_161 : decode cX11_shift 161 = .ok (.aload_n 0, 1) := by decide +kernel
theorem dX11_shift_162 : decode cX11_shift 162 = .ok (.iload 7, 2) := by decide +kernel
theorem dX11_shift_164 : decode cX11_shift 164 = .ok (.invokevirtual 276, 3) := by decide +kernel
theorem dX11_shift_167 : decode cX11_shift 167 = .ok (.ireturn, 1) := by decide +kernel
theorem dX11_shift_79 : decode cX11_shift 79 = .ok (.iload_n 3, 1) := by decide +kernel
theorem dX11_shift_80 : decode cX11_shift 80 = .ok (.sipush 200, 3) := by decide +kernel
theorem dX11_shift_83 : decode cX11_shift 83 = .ok (.if_icmp .gt 31, 3) := by decide +kernel
theorem dX11_shift_86 : decode cX11_shift 86 = .ok (.iload 4, 2) := by decide +kernel
theorem dX11_shift_88 : decode cX11_shift 88 = .ok (.sipush (-200), 3) := by decide +kernel
theorem dX11_shift_91 : decode cX11_shift 91 = .ok (.if_icmp .lt 23, 3) := by decide +kernel
theorem dX11_shift_94 : decode cX11_shift 94 = .ok (.iload 4, 2) := by decide +kernel
theorem dX11_shift_96 : decode cX11_shift 96 = .ok (.sipush 200, 3) := by decide +kernel
theorem dX11_shift_99 : decode cX11_shift 99 = .ok (.if_icmp .gt 15, 3) := by decide +kernel
theorem dX11_shift_102 : decode cX11_shift 102 = .ok (.iload 5, 2) := by decide +kernel
theorem dX11_shift_104 : decode cX11_shift 104 = .ok (.ifCond .lt 10, 3) := by decide +kernel
theorem dX11_shift_107 : decode cX11_shift 107 = .ok (.iload 5, 2) := by decide +kernel
theorem dX11_shift_109 : decode cX11_shift 109 = .ok (.bipush 20, 2) := by decide +kernel
theorem dX11_shift_111 : decode cX11_shift 111 = .ok (.if_icmp .le 7, 3) := by decide +kernel
theorem dX11_shift_118 : decode cX11_shift 118 = .ok (.iconst 0, 1) := by decide +kernel
theorem dX11_grow_0 : decode cX11_grow 0 = .ok (.aload_n 0, 1) := by decide +kernel
theorem dX11_grow_1 : decode cX11_grow 1 = .ok (.iload_n 1, 1) := by decide +kernel
theorem dX11_grow_2 : decode cX11_grow 2 = .ok (.invokevirtual 312, 3) := by decide +kernel
theorem dX11_grow_5 : decode cX11_grow 5 = .ok (.istore_n 2, 1) := by decide +kernel
theorem dX11_grow_6 : decode cX11_grow 6 = .ok (.iload_n 2, 1) := by decide +kernel
theorem dX11_grow_7 : decode cX11_grow 7 = .ok (.ifCond .le 7, 3) := by decide +kernel
theorem dX11_grow_10 : decode cX11_grow 10 = .ok (.iload_n 2, 1) := by decide +kernel
theorem dX11_grow_11 : decode cX11_grow 11 = .ok (.goto 32, 3) := by decide +kernel
theorem dX11_grow_43 : decode cX11_grow 43 = .ok (.istore_n 2, 1) := by decide +kernel
theorem dX11_grow_44 : decode cX11_grow 44 = .ok (.iload_n 2, 1) := by decide +kernel
theorem dX11_grow_45 : decode cX11_grow 45 = .ok (.ifCond .le 9, 3) := by decide +kernel
theorem dX11_grow_48 : decode cX11_grow 48 = .ok (.aload_n 0, 1) := by decide +kernel
theorem dX11_grow_49 : decode cX11_grow 49 = .ok (.iload_n 2, 1) := by decide +kernel
theorem dX11_grow_50 : decode cX11_grow 50 = .ok (.invokevirtual 276, 3) := by decide +kernel
theorem dX11_grow_53 : decode cX11_grow 53 = .ok (.ireturn, 1) := by decide +kernel
theorem dX11_square_0 : decode cX11_square 0 = .ok (.aload_n 0, 1) := by decide +kernel
theorem dX11_square_1 : decode cX11_square 1 = .ok (.iload_n 1, 1) := by decide +kernel
theorem dX11_square_2 : decode cX11_square 2 = .ok (.invokevirtual 312, 3) := by decide +kernel
theorem dX11_square_5 : decode cX11_square 5 = .ok (.istore_n 3, 1) := by decide +kernel
theorem dX11_square_6 : decode cX11_square 6 = .ok (.iload_n 3, 1) := by decide +kernel
theorem dX11_square_7 : decode cX11_square 7 = .ok (.ifCond .le 7, 3) := by decide +kernel
theorem dX11_square_10 : decode cX11_square 10 = .ok (.iload_n 3, 1) := by decide +kernel
theorem dX11_square_11 : decode cX11_square 11 = .ok (.goto 26, 3) := by decide +kernel
theorem dX11_square_37 : decode cX11_square 37 = .ok (.istore_n 3, 1) := by decide +kernel
theorem dX11_square_38 : decode cX11_square 38 = .ok (.iload_n 3, 1) := by decide +kernel
theorem dX11_square_39 : decode cX11_square 39 = .ok (.ifCond .le 9, 3) := by decide +kernel
theorem dX11_square_42 : decode cX11_square 42 = .ok (.aload_n 0, 1) := by decide +kernel
theorem dX11_square_43 : decode cX11_square 43 = .ok (.iload_n 3, 1) := by decide +kernel
theorem dX11_square_44 : decode cX11_square 44 = .ok (.invokevirtual 276, 3) := by decide +kernel
theorem dX11_square_47 : decode cX11_square 47 = .ok (.ireturn, 1) := by decide +kernel
theorem dX11_join_0 : decode cX11_join 0 = .ok (.aload_n 0, 1) := by decide +kernel
theorem dX11_join_1 : decode cX11_join 1 = .ok (.iload_n 1, 1) := by decide +kernel
theorem dX11_join_2 : decode cX11_join 2 = .ok (.invokevirtual 133, 3) := by decide +kernel
theorem dX11_join_5 : decode cX11_join 5 = .ok (.ifCond .eq 11, 3) := by decide +kernel
theorem dX11_join_16 : decode cX11_join 16 = .ok (.iconst 1, 1) := by decide +kernel
theorem dX11_join_17 : decode cX11_join 17 = .ok (.goto 28, 3) := by decide +kernel
theorem dX11_join_45 : decode cX11_join 45 = .ok (.istore 4, 2) := by decide +kernel
theorem dX11_join_47 : decode cX11_join 47 = .ok (.iload 4, 2) := by decide +kernel
theorem dX11_join_49 : decode cX11_join 49 = .ok (.ifCond .le 8, 3) := by decide +kernel
theorem dX11_join_52 : decode cX11_join 52 = .ok (.iload 4, 2) := by decide +kernel
theorem dX11_join_54 : decode cX11_join 54 = .ok (.goto 67, 3) := by decide +kernel
theorem dX11_join_121 : decode cX11_join 121 = .ok (.istore 4, 2) := by decide +kernel
theorem dX11_join_123 : decode cX11_join 123 = .ok (.iload 4, 2) := by decide +kernel
theorem dX11_join_125 : decode cX11_join 125 = .ok (.ifCond .le 10, 3) := by decide +kernel
theorem dX11_join_128 : decode cX11_join 128 = .ok (.aload_n 0, 1) := by decide +kernel
theorem dX11_join_129 : decode cX11_join 129 = .ok (.iload 4, 2) := by decide +kernel
theorem dX11_join_131 : decode cX11_join 131 = .ok (.invokevirtual 126, 3) := by decide +kernel
theorem dX11_join_134 : decode cX11_join 134 = .ok (.ireturn, 1) := by decide +kernel
theorem dX11_drop_0 : decode cX11_drop 0 = .ok (.aload_n 0, 1) := by decide +kernel
theorem dX11_drop_1 : decode cX11_drop 1 = .ok (.iload_n 1, 1) := by decide +kernel
theorem dX11_drop_2 : decode cX11_drop 2 = .ok (.invokevirtual 312, 3) := by decide +kernel
theorem dX11_drop_5 : decode cX11_drop 5 = .ok (.istore_n 2, 1) := by decide +kernel
theorem dX11_drop_6 : decode cX11_drop 6 = .ok (.iload_n 2, 1) := by decide +kernel
theorem dX11_drop_7 : decode cX11_drop 7 = .ok (.ifCond .le 7, 3) := by decide +kernel
theorem dX11_drop_10 : decode cX11_drop 10 = .ok (.iload_n 2, 1) := by decide +kernel
theorem dX11_drop_11 : decode cX11_drop 11 = .ok (.goto 17, 3) := by decide +kernel
theorem dX11_drop_28 : decode cX11_drop 28 = .ok (.istore_n 2, 1) := by decide +kernel
theorem dX11_drop_29 : decode cX11_drop 29 = .ok (.iload_n 2, 1) := by decide +kernel
theorem dX11_drop_30 : decode cX11_drop 30 = .ok (.ifCond .le 9, 3) := by decide +kernel
theorem dX11_drop_33 : decode cX11_drop 33 = .ok (.aload_n 0, 1) := by decide +kernel
theorem dX11_drop_34 : decode cX11_drop 34 = .ok (.iload_n 2, 1) := by decide +kernel
theorem dX11_drop_35 : decode cX11_drop 35 = .ok (.invokevirtual 276, 3) := by decide +kernel
theorem dX11_drop_38 : decode cX11_drop 38 = .ok (.ireturn, 1) := by decide +kernel
theorem dX11_few_0 : decode cX11_few 0 = .ok (.iload_n 1, 1) := by decide +kernel
theorem dX11_few_1 : decode cX11_few 1 = .ok (.ifCond .lt 14, 3) := by decide +kernel
theorem dX11_few_15 : decode cX11_few 15 = .ok (.aload_n 0, 1) := by decide +kernel
theorem dX11_few_16 : decode cX11_few 16 = .ok (.iconst 4, 1) := by decide +kernel
theorem dX11_few_17 : decode cX11_few 17 = .ok (.invokevirtual 126, 3) := by decide +kernel
theorem dX11_few_20 : decode cX11_few 20 = .ok (.ireturn, 1) := by decide +kernel
theorem dX11_few_4 : decode cX11_few 4 = .ok (.iload_n 2, 1) := by decide +kernel
theorem dX11_few_5 : decode cX11_few 5 = .ok (.ifCond .lt 10, 3) := by decide +kernel
theorem dX11_few_8 : decode cX11_few 8 = .ok (.iload_n 2, 1) := by decide +kernel
theorem dX11_few_9 : decode cX11_few 9 = .ok (.sipush 200, 3) := by decide +kernel
theorem dX11_few_12 : decode cX11_few 12 = .ok (.if_icmp .le 9, 3) := by decide +kernel
theorem dX11_few_21 : decode cX11_few 21 = .ok (.iconst 0, 1) := by decide +kernel
theorem dX11_few_22 : decode cX11_few 22 = .ok (.istore_n 3, 1) := by decide +kernel
theorem dX11_few_23 : decode cX11_few 23 = .ok (.iload_n 3, 1) := by decide +kernel
theorem dX11_few_24 : decode cX11_few 24 = .ok (.aload_n 0, 1) := by decide +kernel
theorem dX11_few_25 : decode cX11_few 25 = .ok (.getfield 130, 3) := by decide +kernel
theorem dX11_few_28 : decode cX11_few 28 = .ok (.if_icmp .ge 175, 3) := by decide +kernel
theorem dX11_few_203 : decode cX11_few 203 = .ok (.aload_n 0, 1) := by decide +kernel
theorem dX11_few_204 : decode cX11_few 204 = .ok (.bipush 8, 2) := by decide +kernel
theorem dX11_few_206 : decode cX11_few 206 = .ok (.invokevirtual 401, 3) := by decide +kernel
theorem dX11_few_209 : decode cX11_few 209 = .ok (.ireturn, 1) := by decide +kernel
theorem dX11_choose_0 : decode cX11_choose 0 = .ok (.aload_n 0, 1) := by decide +kernel
theorem dX11_choose_1 : decode cX11_choose 1 = .ok (.iconst 0, 1) := by decide +kernel
theorem dX11_choose_2 : decode cX11_choose 2 = .ok (.putfield 404, 3) := by decide +kernel
theorem dX11_choose_5 : decode cX11_choose 5 = .ok (.iconst 0, 1) := by decide +kernel
theorem dX11_choose_6 : decode cX11_choose 6 = .ok (.istore_n 1, 1) := by decide +kernel
theorem dX11_choose_7 : decode cX11_choose 7 = .ok (.iload_n 1, 1) := by decide +kernel
theorem dX11_choose_8 : decode cX11_choose 8 = .ok (.aload_n 0, 1) := by decide +kernel
theorem dX11_choose_9 : decode cX11_choose 9 = .ok (.getfield 130, 3) := by decide +kernel
theorem dX11_choose_12 : decode cX11_choose 12 = .ok (.if_icmp .ge 35, 3) := by decide +kernel
theorem dX11_choose_47 : decode cX11_choose 47 = .ok (.iconst 0, 1) := by decide +kernel
theorem dX11_choose_48 : decode cX11_choose 48 = .ok (.istore_n 1, 1) := by decide +kernel
theorem dX11_choose_49 : decode cX11_choose 49 = .ok (.iload_n 1, 1) := by decide +kernel
theorem dX11_choose_50 : decode cX11_choose 50 = .ok (.aload_n 0, 1) := by decide +kernel
theorem dX11_choose_51 : decode cX11_choose 51 = .ok (.getfield 130, 3) := by decide +kernel
theorem dX11_choose_54 : decode cX11_choose 54 = .ok (.if_icmp .ge 205, 3) := by decide +kernel
theorem dX11_choose_259 : decode cX11_choose 259 = .ok (.aload_n 0, 1) := by decide +kernel
theorem dX11_choose_260 : decode cX11_choose 260 = .ok (.bipush 9, 2) := by decide +kernel
theorem dX11_choose_262 : decode cX11_choose 262 = .ok (.invokevirtual 401, 3) := by decide +kernel
theorem dX11_choose_265 : decode cX11_choose 265 = .ok (.ireturn, 1) := by decide +kernel
theorem dX11_run_0 : decode cX11_run 0 = .ok (.iload_n 1, 1) := by decide +kernel
theorem dX11_run_1 : decode cX11_run 1 = .ok (.ifCond .ge 9, 3) := by decide +kernel
theorem dX11_run_10 : decode cX11_run 10 = .ok (.aload_n 0, 1) := by decide +kernel
theorem dX11_run_11 : decode cX11_run 11 = .ok (.bipush 10, 2) := by decide +kernel
theorem dX11_run_13 : decode cX11_run 13 = .ok (.iconst (-1), 1) := by decide +kernel
theorem dX11_run_14 : decode cX11_run 14 = .ok (.iload_n 1, 1) := by decide +kernel
theorem dX11_run_15 : decode cX11_run 15 = .ok (.invokevirtual 318, 3) := by decide +kernel
theorem dX11_run_18 : decode cX11_run 18 = .ok (.ireturn, 1) := by decide +kernel
theorem dX11_run_4 : decode cX11_run 4 = .ok (.aload_n 0, 1) := by decide +kernel
theorem dX11_run_5 : decode cX11_run 5 = .ok (.iconst 4, 1) := by decide +kernel
theorem dX11_run_6 : decode cX11_run 6 = .ok (.invokevirtual 126, 3) := by decide +kernel
theorem dX11_run_9 : decode cX11_run 9 = .ok (.ireturn, 1) := by decide +kernel
theorem dX11_undo_0 : decode cX11_undo 0 = .ok (.aload_n 0, 1) := by decide +kernel
theorem dX11_undo_1 : decode cX11_undo 1 = .ok (.getfield 257, 3) := by decide +kernel
theorem dX11_undo_4 : decode cX11_undo 4 = .ok (.aload_n 0, 1) := by decide +kernel
theorem dX11_undo_5 : decode cX11_undo 5 = .ok (.getfield 260, 3) := by decide +kernel
theorem dX11_undo_8 : decode cX11_undo 8 = .ok (.if_icmp .ne 10, 3) := by decide +kernel
theorem dX11_undo_11 : decode cX11_undo 11 = .ok (.aload_n 0, 1) := by decide +kernel
theorem dX11_undo_12 : decode cX11_undo 12 = .ok (.bipush 8, 2) := by decide +kernel
theorem dX11_undo_14 : decode cX11_undo 14 = .ok (.invokevirtual 126, 3) := by decide +kernel
theorem dX11_undo_17 : decode cX11_undo 17 = .ok (.ireturn, 1) := by decide +kernel
theorem dX11_redo_0 : decode cX11_redo 0 = .ok (.aload_n 0, 1) := by decide +kernel
theorem dX11_redo_1 : decode cX11_redo 1 = .ok (.getfield 263, 3) := by decide +kernel
theorem dX11_redo_4 : decode cX11_redo 4 = .ok (.ifCond .ne 10, 3) := by decide +kernel
theorem dX11_redo_7 : decode cX11_redo 7 = .ok (.aload_n 0, 1) := by decide +kernel
theorem dX11_redo_8 : decode cX11_redo 8 = .ok (.bipush 8, 2) := by decide +kernel
theorem dX11_redo_10 : decode cX11_redo 10 = .ok (.invokevirtual 126, 3) := by decide +kernel
theorem dX11_redo_13 : decode cX11_redo 13 = .ok (.ireturn, 1) := by decide +kernel
theorem dX11_meets_0 : decode cX11_meets 0 = .ok (.aload_n 0, 1) := by decide +kernel
theorem dX11_meets_1 : decode cX11_meets 1 = .ok (.iload_n 1, 1) := by decide +kernel
theorem dX11_meets_2 : decode cX11_meets 2 = .ok (.invokevirtual 197, 3) := by decide +kernel
theorem dX11_meets_5 : decode cX11_meets 5 = .ok (.ifCond .eq 24, 3) := by decide +kernel
theorem dX11_meets_29 : decode cX11_meets 29 = .ok (.iconst 0, 1) := by decide +kernel
theorem dX11_meets_30 : decode cX11_meets 30 = .ok (.ireturn, 1) := by decide +kernel
theorem dX11_inside_0 : decode cX11_inside 0 = .ok (.aload_n 0, 1) := by decide +kernel
theorem dX11_inside_1 : decode cX11_inside 1 = .ok (.iload_n 3, 1) := by decide +kernel
theorem dX11_inside_2 : decode cX11_inside 2 = .ok (.invokevirtual 197, 3) := by decide +kernel
theorem dX11_inside_5 : decode cX11_inside 5 = .ok (.ifCond .eq 33, 3) := by decide +kernel
theorem dX11_inside_38 : decode cX11_inside 38 = .ok (.iconst (-1), 1) := by decide +kernel
theorem dX11_inside_39 : decode cX11_inside 39 = .ok (.ireturn, 1) := by decide +kernel
theorem dX11_side_0 : decode cX11_side 0 = .ok (.iload_n 1, 1) := by decide +kernel
theorem dX11_side_1 : decode cX11_side 1 = .ok (.ifCond .lt 25, 3) := by decide +kernel
theorem dX11_side_26 : decode cX11_side 26 = .ok (.iconst 0, 1) := by decide +kernel
theorem dX11_side_27 : decode cX11_side 27 = .ok (.istore 5, 2) := by decide +kernel
theorem dX11_side_29 : decode cX11_side 29 = .ok (.iload 5, 2) := by decide +kernel
theorem dX11_side_31 : decode cX11_side 31 = .ok (.ifCond .eq 35, 3) := by decide +kernel
theorem dX11_side_66 : decode cX11_side 66 = .ok (.iconst 0, 1) := by decide +kernel
theorem dX11_side_67 : decode cX11_side 67 = .ok (.ireturn, 1) := by decide +kernel
theorem dX11_side_4 : decode cX11_side 4 = .ok (.iload_n 1, 1) := by decide +kernel
theorem dX11_side_5 : decode cX11_side 5 = .ok (.sipush 1000, 3) := by decide +kernel
theorem dX11_side_8 : decode cX11_side 8 = .ok (.if_icmp .gt 18, 3) := by decide +kernel
theorem dX11_side_11 : decode cX11_side 11 = .ok (.iload_n 2, 1) := by decide +kernel
theorem dX11_side_12 : decode cX11_side 12 = .ok (.ifCond .lt 14, 3) := by decide +kernel
theorem dX11_side_15 : decode cX11_side 15 = .ok (.iload_n 2, 1) := by decide +kernel
theorem dX11_side_16 : decode cX11_side 16 = .ok (.sipush 1000, 3) := by decide +kernel
theorem dX11_side_19 : decode cX11_side 19 = .ok (.if_icmp .gt 7, 3) := by decide +kernel
theorem dX11_side_22 : decode cX11_side 22 = .ok (.iconst 1, 1) := by decide +kernel
theorem dX11_side_23 : decode cX11_side 23 = .ok (.goto 4, 3) := by decide +kernel
theorem dX11_side_34 : decode cX11_side 34 = .ok (.aload_n 0, 1) := by decide +kernel
theorem dX11_side_35 : decode cX11_side 35 = .ok (.iload_n 3, 1) := by decide +kernel
theorem dX11_side_36 : decode cX11_side 36 = .ok (.invokevirtual 197, 3) := by decide +kernel
theorem dX11_side_39 : decode cX11_side 39 = .ok (.ifCond .eq 27, 3) := by decide +kernel
theorem dX11_near_0 : decode cX11_near 0 = .ok (.aload_n 0, 1) := by decide +kernel
theorem dX11_near_1 : decode cX11_near 1 = .ok (.iload_n 1, 1) := by decide +kernel
theorem dX11_near_2 : decode cX11_near 2 = .ok (.invokevirtual 197, 3) := by decide +kernel
theorem dX11_near_5 : decode cX11_near 5 = .ok (.ifCond .eq 20, 3) := by decide +kernel
theorem dX11_near_25 : decode cX11_near 25 = .ok (.ldc2_w 399, 3) := by decide +kernel
theorem dX11_near_28 : decode cX11_near 28 = .ok (.lreturn, 1) := by decide +kernel
theorem dX11_clashes_0 : decode cX11_clashes 0 = .ok (.iload_n 1, 1) := by decide +kernel
theorem dX11_clashes_1 : decode cX11_clashes 1 = .ok (.ifCond .lt 10, 3) := by decide +kernel
theorem dX11_clashes_11 : decode cX11_clashes 11 = .ok (.iconst (-1), 1) := by decide +kernel
theorem dX11_clashes_12 : decode cX11_clashes 12 = .ok (.ireturn, 1) := by decide +kernel
theorem dX11_clashes_4 : decode cX11_clashes 4 = .ok (.iload_n 1, 1) := by decide +kernel
theorem dX11_clashes_5 : decode cX11_clashes 5 = .ok (.sipush 200, 3) := by decide +kernel
theorem dX11_clashes_8 : decode cX11_clashes 8 = .ok (.if_icmp .le 5, 3) := by decide +kernel
theorem dX11_clashes_13 : decode cX11_clashes 13 = .ok (.iconst 0, 1) := by decide +kernel
theorem dX11_clashes_14 : decode cX11_clashes 14 = .ok (.istore_n 2, 1) := by decide +kernel
theorem dX11_clashes_15 : decode cX11_clashes 15 = .ok (.iconst 0, 1) := by decide +kernel
theorem dX11_clashes_16 : decode cX11_clashes 16 = .ok (.istore_n 3, 1) := by decide +kernel
theorem dX11_clashes_17 : decode cX11_clashes 17 = .ok (.iload_n 3, 1) := by decide +kernel
theorem dX11_clashes_18 : decode cX11_clashes 18 = .ok (.aload_n 0, 1) := by decide +kernel
theorem dX11_clashes_19 : decode cX11_clashes 19 = .ok (.getfield 130, 3) := by decide +kernel
