theorem dX10_feature_28 : decode cX10_feature 28 = .ok (.bipush 100, 2) := by decide +kernel
theorem dX10_feature_30 : decode cX10_feature 30 = .ok (.invokestatic 74, 3) := by decide +kernel
theorem dX10_feature_33 : decode cX10_feature 33 = .ok (.ifCond .eq 14, 3) := by decide +kernel
theorem dX10_feature_47 : decode cX10_feature 47 = .ok (.aload_n 0, 1) := by decide +kernel
theorem dX10_feature_48 : decode cX10_feature 48 = .ok (.iconst 4, 1) := by decide +kernel
theorem dX10_feature_49 : decode cX10_feature 49 = .ok (.invokevirtual 78, 3) := by decide +kernel
theorem dX10_feature_52 : decode cX10_feature 52 = .ok (.ireturn, 1) := by decide +kernel
theorem dX10_feature_36 : decode cX10_feature 36 = .ok (.iload 4, 2) := by decide +kernel
theorem dX10_feature_38 : decode cX10_feature 38 = .ok (.iconst 0, 1) := by decide +kernel
theorem dX10_feature_39 : decode cX10_feature 39 = .ok (.bipush 9, 2) := by decide +kernel
theorem dX10_feature_41 : decode cX10_feature 41 = .ok (.invokestatic 74, 3) := by decide +kernel
theorem dX10_feature_44 : decode cX10_feature 44 = .ok (.ifCond .ne 9, 3) := by decide +kernel
theorem dX10_feature_53 : decode cX10_feature 53 = .ok (.aload_n 0, 1) := by decide +kernel
theorem dX10_feature_54 : decode cX10_feature 54 = .ok (.getfield 12, 3) := by decide +kernel
theorem dX10_feature_57 : decode cX10_feature 57 = .ok (.invokevirtual 82, 3) := by decide +kernel
theorem dX10_feature_60 : decode cX10_feature 60 = .ok (.ifCond .eq 10, 3) := by decide +kernel
theorem dX10_feature_70 : decode cX10_feature 70 = .ok (.new 86, 3) := by decide +kernel
theorem dX10_feature_73 : decode cX10_feature 73 = .ok (.dup, 1) := by decide +kernel
theorem dX10_feature_74 : decode cX10_feature 74 = .ok (.iload_n 1, 1) := by decide +kernel
theorem dX10_feature_75 : decode cX10_feature 75 = .ok (.iload_n 2, 1) := by decide +kernel
theorem dX10_feature_76 : decode cX10_feature 76 = .ok (.iload_n 3, 1) := by decide +kernel
theorem dX10_feature_77 : decode cX10_feature 77 = .ok (.iload 4, 2) := by decide +kernel
theorem dX10_feature_79 : decode cX10_feature 79 = .ok (.invokespecial 88, 3) := by decide +kernel
theorem dX10_feature_82 : decode cX10_feature 82 = .ok (.astore 5, 2) := by decide +kernel
theorem dX10_feature_84 : decode cX10_feature 84 = .ok (.aload 5, 2) := by decide +kernel
theorem dX10_feature_86 : decode cX10_feature 86 = .ok (.getfield 91, 3) := by decide +kernel
theorem dX10_feature_89 : decode cX10_feature 89 = .ok (.new 95, 3) := by decide +kernel
theorem dX10_feature_92 : decode cX10_feature 92 = .ok (.dup, 1) := by decide +kernel
theorem dX10_feature_93 : decode cX10_feature 93 = .ok (.iload_n 1, 1) := by decide +kernel
theorem dX10_feature_94 : decode cX10_feature 94 = .ok (.invokestatic 97, 3) := by decide +kernel
theorem dX10_feature_97 : decode cX10_feature 97 = .ok (.iload_n 1, 1) := by decide +kernel
theorem dX10_feature_98 : decode cX10_feature 98 = .ok (.iconst 5, 1) := by decide +kernel
theorem dX10_feature_99 : decode cX10_feature 99 = .ok (.if_icmp .lt 7, 3) := by decide +kernel
theorem dX10_feature_106 : decode cX10_feature 106 = .ok (.iconst 0, 1) := by decide +kernel
theorem dX10_feature_107 : decode cX10_feature 107 = .ok (.invokespecial 100, 3) := by decide +kernel
theorem dX10_feature_110 : decode cX10_feature 110 = .ok (.putfield 103, 3) := by decide +kernel
theorem dX10_feature_113 : decode cX10_feature 113 = .ok (.aload_n 0, 1) := by decide +kernel
theorem dX10_feature_114 : decode cX10_feature 114 = .ok (.invokevirtual 109, 3) := by decide +kernel
theorem dX10_feature_117 : decode cX10_feature 117 = .ok (.pop, 1) := by decide +kernel
theorem dX10_feature_118 : decode cX10_feature 118 = .ok (.aload_n 0, 1) := by decide +kernel
theorem dX10_feature_119 : decode cX10_feature 119 = .ok (.getfield 12, 3) := by decide +kernel
theorem dX10_feature_122 : decode cX10_feature 122 = .ok (.aload 5, 2) := by decide +kernel
theorem dX10_feature_124 : decode cX10_feature 124 = .ok (.invokevirtual 112, 3) := by decide +kernel
theorem dX10_feature_127 : decode cX10_feature 127 = .ok (.ireturn, 1) := by decide +kernel
theorem dX10_feature_102 : decode cX10_feature 102 = .ok (.iconst 1, 1) := by decide +kernel
theorem dX10_feature_103 : decode cX10_feature 103 = .ok (.goto 4, 3) := by decide +kernel
theorem dX10_corner_0 : decode cX10_corner 0 = .ok (.aload_n 0, 1) := by decide +kernel
theorem dX10_corner_1 : decode cX10_corner 1 = .ok (.getfield 12, 3) := by decide +kernel
theorem dX10_corner_4 : decode cX10_corner 4 = .ok (.iload_n 1, 1) := by decide +kernel
theorem dX10_corner_5 : decode cX10_corner 5 = .ok (.invokevirtual 116, 3) := by decide +kernel
theorem dX10_corner_8 : decode cX10_corner 8 = .ok (.astore 4, 2) := by decide +kernel
theorem dX10_corner_10 : decode cX10_corner 10 = .ok (.aload 4, 2) := by decide +kernel
theorem dX10_corner_12 : decode cX10_corner 12 = .ok (.ifnonnull 9, 3) := by decide +kernel
theorem dX10_corner_15 : decode cX10_corner 15 = .ok (.aload_n 0, 1) := by decide +kernel
theorem dX10_corner_16 : decode cX10_corner 16 = .ok (.iconst 1, 1) := by decide +kernel
theorem dX10_corner_17 : decode cX10_corner 17 = .ok (.invokevirtual 78, 3) := by decide +kernel
theorem dX10_corner_20 : decode cX10_corner 20 = .ok (.ireturn, 1) := by decide +kernel
theorem dX10_tear_0 : decode cX10_tear 0 = .ok (.aload_n 0, 1) := by decide +kernel
theorem dX10_tear_1 : decode cX10_tear 1 = .ok (.getfield 12, 3) := by decide +kernel
theorem dX10_tear_4 : decode cX10_tear 4 = .ok (.iload_n 1, 1) := by decide +kernel
theorem dX10_tear_5 : decode cX10_tear 5 = .ok (.invokevirtual 116, 3) := by decide +kernel
theorem dX10_tear_8 : decode cX10_tear 8 = .ok (.astore_n 2, 1) := by decide +kernel
theorem dX10_tear_9 : decode cX10_tear 9 = .ok (.aload_n 2, 1) := by decide +kernel
theorem dX10_tear_10 : decode cX10_tear 10 = .ok (.ifnonnull 9, 3) := by decide +kernel
theorem dX10_tear_13 : decode cX10_tear 13 = .ok (.aload_n 0, 1) := by decide +kernel
theorem dX10_tear_14 : decode cX10_tear 14 = .ok (.iconst 1, 1) := by decide +kernel
theorem dX10_tear_15 : decode cX10_tear 15 = .ok (.invokevirtual 137, 3) := by decide +kernel
theorem dX10_tear_18 : decode cX10_tear 18 = .ok (.ireturn, 1) := by decide +kernel
theorem dX10_done_0 : decode cX10_done 0 = .ok (.aload_n 0, 1) := by decide +kernel
theorem dX10_done_1 : decode cX10_done 1 = .ok (.getfield 12, 3) := by decide +kernel
theorem dX10_done_4 : decode cX10_done 4 = .ok (.iload_n 1, 1) := by decide +kernel
theorem dX10_done_5 : decode cX10_done 5 = .ok (.invokevirtual 116, 3) := by decide +kernel
theorem dX10_done_8 : decode cX10_done 8 = .ok (.astore_n 2, 1) := by decide +kernel
theorem dX10_done_9 : decode cX10_done 9 = .ok (.aload_n 2, 1) := by decide +kernel
theorem dX10_done_10 : decode cX10_done 10 = .ok (.ifnonnull 9, 3) := by decide +kernel
theorem dX10_done_13 : decode cX10_done 13 = .ok (.aload_n 0, 1) := by decide +kernel
theorem dX10_done_14 : decode cX10_done 14 = .ok (.iconst 1, 1) := by decide +kernel
theorem dX10_done_15 : decode cX10_done 15 = .ok (.invokevirtual 137, 3) := by decide +kernel
theorem dX10_done_18 : decode cX10_done 18 = .ok (.ireturn, 1) := by decide +kernel
theorem dX10_plainer_0 : decode cX10_plainer 0 = .ok (.aload_n 0, 1) := by decide +kernel
theorem dX10_plainer_1 : decode cX10_plainer 1 = .ok (.getfield 12, 3) := by decide +kernel
theorem dX10_plainer_4 : decode cX10_plainer 4 = .ok (.iload_n 1, 1) := by decide +kernel
theorem dX10_plainer_5 : decode cX10_plainer 5 = .ok (.invokevirtual 116, 3) := by decide +kernel
theorem dX10_plainer_8 : decode cX10_plainer 8 = .ok (.astore_n 3, 1) := by decide +kernel
theorem dX10_plainer_9 : decode cX10_plainer 9 = .ok (.aload_n 3, 1) := by decide +kernel
theorem dX10_plainer_10 : decode cX10_plainer 10 = .ok (.ifnonnull 9, 3) := by decide +kernel
theorem dX10_plainer_13 : decode cX10_plainer 13 = .ok (.aload_n 0, 1) := by decide +kernel
theorem dX10_plainer_14 : decode cX10_plainer 14 = .ok (.iconst 1, 1) := by decide +kernel
theorem dX10_plainer_15 : decode cX10_plainer 15 = .ok (.invokevirtual 78, 3) := by decide +kernel
theorem dX10_plainer_18 : decode cX10_plainer 18 = .ok (.ireturn, 1) := by decide +kernel
theorem dX10_smooth_0 : decode cX10_smooth 0 = .ok (.aload_n 0, 1) := by decide +kernel
theorem dX10_smooth_1 : decode cX10_smooth 1 = .ok (.getfield 12, 3) := by decide +kernel
theorem dX10_smooth_4 : decode cX10_smooth 4 = .ok (.iload_n 1, 1) := by decide +kernel
theorem dX10_smooth_5 : decode cX10_smooth 5 = .ok (.invokevirtual 116, 3) := by decide +kernel
theorem dX10_smooth_8 : decode cX10_smooth 8 = .ok (.astore_n 2, 1) := by decide +kernel
theorem dX10_smooth_9 : decode cX10_smooth 9 = .ok (.aload_n 2, 1) := by decide +kernel
theorem dX10_smooth_10 : decode cX10_smooth 10 = .ok (.ifnonnull 9, 3) := by decide +kernel
theorem dX10_smooth_13 : decode cX10_smooth 13 = .ok (.aload_n 0, 1) := by decide +kernel
theorem dX10_smooth_14 : decode cX10_smooth 14 = .ok (.iconst 1, 1) := by decide +kernel
theorem dX10_smooth_15 : decode cX10_smooth 15 = .ok (.invokevirtual 137, 3) := by decide +kernel
theorem dX10_smooth_18 : decode cX10_smooth 18 = .ok (.ireturn, 1) := by decide +kernel
theorem dX10_shift_0 : decode cX10_shift 0 = .ok (.aload_n 0, 1) := by decide +kernel
theorem dX10_shift_1 : decode cX10_shift 1 = .ok (.getfield 12, 3) := by decide +kernel
theorem dX10_shift_4 : decode cX10_shift 4 = .ok (.iload_n 1, 1) := by decide +kernel
theorem dX10_shift_5 : decode cX10_shift 5 = .ok (.invokevirtual 116, 3) := by decide +kernel
theorem dX10_shift_8 : decode cX10_shift 8 = .ok (.astore 6, 2) := by decide +kernel
theorem dX10_shift_10 : decode cX10_shift 10 = .ok (.aload 6, 2) := by decide +kernel
theorem dX10_shift_12 : decode cX10_shift 12 = .ok (.ifnull 12, 3) := by decide +kernel
theorem dX10_shift_24 : decode cX10_shift 24 = .ok (.aload_n 0, 1) := by decide +kernel
theorem dX10_shift_25 : decode cX10_shift 25 = .ok (.iconst 1, 1) := by decide +kernel
theorem dX10_shift_26 : decode cX10_shift 26 = .ok (.invokevirtual 137, 3) := by decide +kernel
theorem dX10_shift_29 : decode cX10_shift 29 = .ok (.ireturn, 1) := by decide +kernel
theorem dX10_grow_0 : decode cX10_grow 0 = .ok (.aload_n 0, 1) := by decide +kernel
theorem dX10_grow_1 : decode cX10_grow 1 = .ok (.getfield 12, 3) := by decide +kernel
theorem dX10_grow_4 : decode cX10_grow 4 = .ok (.iload_n 1, 1) := by decide +kernel
theorem dX10_grow_5 : decode cX10_grow 5 = .ok (.invokevirtual 116, 3) := by decide +kernel
theorem dX10_grow_8 : decode cX10_grow 8 = .ok (.astore_n 2, 1) := by decide +kernel
theorem dX10_grow_9 : decode cX10_grow 9 = .ok (.aload_n 2, 1) := by decide +kernel
theorem dX10_grow_10 : decode cX10_grow 10 = .ok (.ifnonnull 9, 3) := by decide +kernel
theorem dX10_grow_13 : decode cX10_grow 13 = .ok (.aload_n 0, 1) := by decide +kernel
theorem dX10_grow_14 : decode cX10_grow 14 = .ok (.iconst 1, 1) := by decide +kernel
theorem dX10_grow_15 : decode cX10_grow 15 = .ok (.invokevirtual 137, 3) := by decide +kernel
theorem dX10_grow_18 : decode cX10_grow 18 = .ok (.ireturn, 1) := by decide +kernel
theorem dX10_square_0 : decode cX10_square 0 = .ok (.aload_n 0, 1) := by decide +kernel
theorem dX10_square_1 : decode cX10_square 1 = .ok (.getfield 12, 3) := by decide +kernel
theorem dX10_square_4 : decode cX10_square 4 = .ok (.iload_n 1, 1) := by decide +kernel
theorem dX10_square_5 : decode cX10_square 5 = .ok (.invokevirtual 116, 3) := by decide +kernel
theorem dX10_square_8 : decode cX10_square 8 = .ok (.astore_n 3, 1) := by decide +kernel
theorem dX10_square_9 : decode cX10_square 9 = .ok (.aload_n 3, 1) := by decide +kernel
theorem dX10_square_10 : decode cX10_square 10 = .ok (.ifnonnull 9, 3) := by decide +kernel
theorem dX10_square_13 : decode cX10_square 13 = .ok (.aload_n 0, 1) := by decide +kernel
theorem dX10_square_14 : decode cX10_square 14 = .ok (.iconst 1, 1) := by decide +kernel
theorem dX10_square_15 : decode cX10_square 15 = .ok (.invokevirtual 137, 3) := by decide +kernel
theorem dX10_square_18 : decode cX10_square 18 = .ok (.ireturn, 1) := by decide +kernel
theorem dX10_join_0 : decode cX10_join 0 = .ok (.aload_n 0, 1) := by decide +kernel
theorem dX10_join_1 : decode cX10_join 1 = .ok (.getfield 12, 3) := by decide +kernel
theorem dX10_join_4 : decode cX10_join 4 = .ok (.iload_n 1, 1) := by decide +kernel
theorem dX10_join_5 : decode cX10_join 5 = .ok (.invokevirtual 116, 3) := by decide +kernel
theorem dX10_join_8 : decode cX10_join 8 = .ok (.astore 4, 2) := by decide +kernel
theorem dX10_join_10 : decode cX10_join 10 = .ok (.aload_n 0, 1) := by decide +kernel
theorem dX10_join_11 : decode cX10_join 11 = .ok (.getfield 12, 3) := by decide +kernel
theorem dX10_join_14 : decode cX10_join 14 = .ok (.iload_n 2, 1) := by decide +kernel
theorem dX10_join_15 : decode cX10_join 15 = .ok (.invokevirtual 116, 3) := by decide +kernel
theorem dX10_join_18 : decode cX10_join 18 = .ok (.astore 5, 2) := by decide +kernel
theorem dX10_join_20 : decode cX10_join 20 = .ok (.aload 4, 2) := by decide +kernel
theorem dX10_join_22 : decode cX10_join 22 = .ok (.ifnull 8, 3) := by decide +kernel
theorem dX10_join_30 : decode cX10_join 30 = .ok (.aload_n 0, 1) := by decide +kernel
theorem dX10_join_31 : decode cX10_join 31 = .ok (.iconst 1, 1) := by decide +kernel
theorem dX10_join_32 : decode cX10_join 32 = .ok (.invokevirtual 78, 3) := by decide +kernel
theorem dX10_join_35 : decode cX10_join 35 = .ok (.ireturn, 1) := by decide +kernel
theorem dX10_drop_0 : decode cX10_drop 0 = .ok (.aload_n 0, 1) := by decide +kernel
theorem dX10_drop_1 : decode cX10_drop 1 = .ok (.getfield 12, 3) := by decide +kernel
theorem dX10_drop_4 : decode cX10_drop 4 = .ok (.iload_n 1, 1) := by decide +kernel
theorem dX10_drop_5 : decode cX10_drop 5 = .ok (.invokevirtual 116, 3) := by decide +kernel
theorem dX10_drop_8 : decode cX10_drop 8 = .ok (.astore_n 2, 1) := by decide +kernel
theorem dX10_drop_9 : decode cX10_drop 9 = .ok (.aload_n 2, 1) := by decide +kernel
theorem dX10_drop_10 : decode cX10_drop 10 = .ok (.ifnonnull 9, 3) := by decide +kernel
theorem dX10_drop_13 : decode cX10_drop 13 = .ok (.aload_n 0, 1) := by decide +kernel
theorem dX10_drop_14 : decode cX10_drop 14 = .ok (.iconst 1, 1) := by decide +kernel
theorem dX10_drop_15 : decode cX10_drop 15 = .ok (.invokevirtual 137, 3) := by decide +kernel
theorem dX10_drop_18 : decode cX10_drop 18 = .ok (.ireturn, 1) := by decide +kernel
theorem dX10_few_0 : decode cX10_few 0 = .ok (.iload_n 1, 1) := by decide +kernel
theorem dX10_few_1 : decode cX10_few 1 = .ok (.ifCond .lt 14, 3) := by decide +kernel
theorem dX10_few_15 : decode cX10_few 15 = .ok (.aload_n 0, 1) := by decide +kernel
theorem dX10_few_16 : decode cX10_few 16 = .ok (.iconst 4, 1) := by decide +kernel
theorem dX10_few_17 : decode cX10_few 17 = .ok (.invokevirtual 78, 3) := by decide +kernel
theorem dX10_few_20 : decode cX10_few 20 = .ok (.ireturn, 1) := by decide +kernel
theorem dX10_few_4 : decode cX10_few 4 = .ok (.iload_n 2, 1) := by decide +kernel
theorem dX10_few_5 : decode cX10_few 5 = .ok (.iconst 0, 1) := by decide +kernel
theorem dX10_few_6 : decode cX10_few 6 = .ok (.sipush 200, 3) := by decide +kernel
theorem dX10_few_9 : decode cX10_few 9 = .ok (.invokestatic 74, 3) := by decide +kernel
theorem dX10_few_12 : decode cX10_few 12 = .ok (.ifCond .ne 9, 3) := by decide +kernel
theorem dX10_few_21 : decode cX10_few 21 = .ok (.iconst 0, 1) := by decide +kernel
theorem dX10_few_22 : decode cX10_few 22 = .ok (.istore_n 3, 1) := by decide +kernel
theorem dX10_few_23 : decode cX10_few 23 = .ok (.iload_n 3, 1) := by decide +kernel
theorem dX10_few_24 : decode cX10_few 24 = .ok (.aload_n 0, 1) := by decide +kernel
theorem dX10_few_25 : decode cX10_few 25 = .ok (.getfield 12, 3) := by decide +kernel
theorem dX10_few_28 : decode cX10_few 28 = .ok (.getfield 224, 3) := by decide +kernel
theorem dX10_few_31 : decode cX10_few 31 = .ok (.if_icmp .ge 38, 3) := by decide +kernel
theorem dX10_few_69 : decode cX10_few 69 = .ok (.iconst 0, 1) := by decide +kernel
theorem dX10_few_70 : decode cX10_few 70 = .ok (.istore_n 3, 1) := by decide +kernel
theorem dX10_few_71 : decode cX10_few 71 = .ok (.iconst 0, 1) := by decide +kernel
theorem dX10_few_72 : decode cX10_few 72 = .ok (.istore 4, 2) := by decide +kernel
theorem dX10_few_74 : decode cX10_few 74 = .ok (.iload 4, 2) := by decide +kernel
theorem dX10_few_76 : decode cX10_few 76 = .ok (.aload_n 0, 1) := by decide +kernel
theorem dX10_few_77 : decode cX10_few 77 = .ok (.getfield 12, 3) := by decide +kernel
theorem dX10_few_80 : decode cX10_few 80 = .ok (.getfield 224, 3) := by decide +kernel
theorem dX10_few_83 : decode cX10_few 83 = .ok (.if_icmp .ge 49, 3) := by decide +kernel
theorem dX10_few_132 : decode cX10_few 132 = .ok (.iload_n 3, 1) := by decide +kernel
theorem dX10_few_133 : decode cX10_few 133 = .ok (.ifCond .ne 10, 3) := by decide +kernel
theorem dX10_few_136 : decode cX10_few 136 = .ok (.aload_n 0, 1) := by decide +kernel
theorem dX10_few_137 : decode cX10_few 137 = .ok (.bipush 8, 2) := by decide +kernel
theorem dX10_few_139 : decode cX10_few 139 = .ok (.invokevirtual 78, 3) := by decide +kernel
theorem dX10_few_142 : decode cX10_few 142 = .ok (.ireturn, 1) := by decide +kernel
theorem dX6_gather_0 : decode cX6_gather 0 = .ok (.aload_n 0, 1) := by decide +kernel
theorem dX6_gather_1 : decode cX6_gather 1 = .ok (.iconst 0, 1) := by decide +kernel
theorem dX6_gather_2 : decode cX6_gather 2 = .ok (.putfield 30, 3) := by decide +kernel
theorem dX6_gather_5 : decode cX6_gather 5 = .ok (.iconst 0, 1) := by decide +kernel
theorem dX6_gather_6 : decode cX6_gather 6 = .ok (.istore_n 2, 1) := by decide +kernel
theorem dX6_gather_7 : decode cX6_gather 7 = .ok (.iload_n 2, 1) := by decide +kernel
theorem dX6_gather_8 : decode cX6_gather 8 = .ok (.aload_n 1, 1) := by decide +kernel
theorem dX6_gather_9 : decode cX6_gather 9 = .ok (.getfield 34, 3) := by decide +kernel
theorem dX6_gather_12 : decode cX6_gather 12 = .ok (.if_icmp .ge 59, 3) := by decide +kernel
theorem dX6_gather_71 : decode cX6_gather 71 = .ok (.iconst 0, 1) := by decide +kernel
theorem dX6_gather_72 : decode cX6_gather 72 = .ok (.istore_n 2, 1) := by decide +kernel
theorem dX6_gather_73 : decode cX6_gather 73 = .ok (.iload_n 2, 1) := by decide +kernel
theorem dX6_gather_74 : decode cX6_gather 74 = .ok (.aload_n 0, 1) := by decide +kernel
theorem dX6_gather_75 : decode cX6_gather 75 = .ok (.getfield 30, 3) := by decide +kernel
theorem dX6_gather_78 : decode cX6_gather 78 = .ok (.if_icmp .ge 96, 3) := by decide +kernel
theorem dX6_gather_174 : decode cX6_gather 174 = .ok (.return_, 1) := by decide +kernel
theorem dX6_leaveOut_0 : decode cX6_leaveOut 0 = .ok (.iconst 0, 1) := by decide +kernel
theorem dX6_leaveOut_1 : decode cX6_leaveOut 1 = .ok (.istore_n 2, 1) := by decide +kernel
theorem dX6_leaveOut_2 : decode cX6_leaveOut 2 = .ok (.iconst 0, 1) := by decide +kernel
theorem dX6_leaveOut_3 : decode cX6_leaveOut 3 = .ok (.istore_n 3, 1) := by decide +kernel
theorem dX6_leaveOut_4 : decode cX6_leaveOut 4 = .ok (.iload_n 3, 1) := by decide +kernel
theorem dX6_leaveOut_5 : decode cX6_leaveOut 5 = .ok (.aload_n 0, 1) := by decide +kernel
theorem dX6_leaveOut_6 : decode cX6_leaveOut 6 = .ok (.getfield 30, 3) := by decide +kernel
theorem dX6_leaveOut_9 : decode cX6_leaveOut 9 = .ok (.if_icmp .ge 71, 3) := by decide +kernel
theorem dX6_leaveOut_80 : decode cX6_leaveOut 80 = .ok (.iload_n 2, 1) := by decide +kernel
theorem dX6_leaveOut_81 : decode cX6_leaveOut 81 = .ok (.ireturn, 1) := by decide +kernel
theorem dX10_choose_0 : decode cX10_choose 0 = .ok (.aload_n 0, 1) := by decide +kernel
theorem dX10_choose_1 : decode cX10_choose 1 = .ok (.getfield 26, 3) := by decide +kernel
theorem dX10_choose_4 : decode cX10_choose 4 = .ok (.aload_n 0, 1) := by decide +kernel
theorem dX10_choose_5 : decode cX10_choose 5 = .ok (.getfield 12, 3) := by decide +kernel
theorem dX10_choose_8 : decode cX10_choose 8 = .ok (.invokevirtual 233, 3) := by decide +kernel
theorem dX10_choose_11 : decode cX10_choose 11 = .ok (.aload_n 0, 1) := by decide +kernel
theorem dX10_choose_12 : decode cX10_choose 12 = .ok (.getfield 26, 3) := by decide +kernel
theorem dX10_choose_15 : decode cX10_choose 15 = .ok (.aload_n 0, 1) := by decide +kernel
theorem dX10_choose_16 : decode cX10_choose 16 = .ok (.getfield 61, 3) := by decide +kernel
theorem dX10_choose_19 : decode cX10_choose 19 = .ok (.iconst 1, 1) := by decide +kernel
theorem dX10_choose_20 : decode cX10_choose 20 = .ok (.iadd, 1) := by decide +kernel
theorem dX10_choose_21 : decode cX10_choose 21 = .ok (.invokevirtual 237, 3) := by decide +kernel
theorem dX10_choose_24 : decode cX10_choose 24 = .ok (.istore_n 1, 1) := by decide +kernel
theorem dX10_choose_25 : decode cX10_choose 25 = .ok (.iload_n 1, 1) := by decide +kernel
theorem dX10_choose_26 : decode cX10_choose 26 = .ok (.ifCond .ne 10, 3) := by decide +kernel
theorem dX10_choose_29 : decode cX10_choose 29 = .ok (.aload_n 0, 1) := by decide +kernel
theorem dX10_choose_30 : decode cX10_choose 30 = .ok (.bipush 8, 2) := by decide +kernel
theorem dX10_choose_32 : decode cX10_choose 32 = .ok (.invokevirtual 78, 3) := by decide +kernel
theorem dX10_choose_35 : decode cX10_choose 35 = .ok (.ireturn, 1) := by decide +kernel
theorem dX10_run_0 : decode cX10_run 0 = .ok (.iload_n 1, 1) := by decide +kernel
theorem dX10_run_1 : decode cX10_run 1 = .ok (.ifCond .ge 9, 3) := by decide +kernel
theorem dX10_run_10 : decode cX10_run 10 = .ok (.iconst 0, 1) := by decide +kernel
theorem dX10_run_11 : decode cX10_run 11 = .ok (.istore_n 2, 1) := by decide +kernel
theorem dX10_run_12 : decode cX10_run 12 = .ok (.iconst 0, 1) := by decide +kernel
theorem dX10_run_13 : decode cX10_run 13 = .ok (.istore_n 3, 1) := by decide +kernel
theorem dX10_run_14 : decode cX10_run 14 = .ok (.iload_n 3, 1) := by decide +kernel
theorem dX10_run_15 : decode cX10_run 15 = .ok (.sipush 8001, 3) := by decide +kernel
theorem dX10_run_18 : decode cX10_run 18 = .ok (.if_icmp .ge 88, 3) := by decide +kernel
theorem dX10_run_21 : decode cX10_run 21 = .ok (.iload_n 2, 1) := by decide +kernel
theorem dX10_run_22 : decode cX10_run 22 = .ok (.istore 4, 2) := by decide +kernel
theorem dX10_run_24 : decode cX10_run 24 = .ok (.iconst 0, 1) := by decide +kernel
theorem dX10_run_25 : decode cX10_run 25 = .ok (.istore 5, 2) := by decide +kernel
theorem dX10_run_27 : decode cX10_run 27 = .ok (.iload 5, 2) := by decide +kernel
theorem dX10_run_29 : decode cX10_run 29 = .ok (.aload_n 0, 1) := by decide +kernel
theorem dX10_run_30 : decode cX10_run 30 = .ok (.getfield 12, 3) := by decide +kernel
theorem dX10_run_33 : decode cX10_run 33 = .ok (.getfield 224, 3) := by decide +kernel
theorem dX10_run_36 : decode cX10_run 36 = .ok (.if_icmp .ge 55, 3) := by decide +kernel
theorem dX10_run_91 : decode cX10_run 91 = .ok (.iload_n 2, 1) := by decide +kernel
theorem dX10_run_92 : decode cX10_run 92 = .ok (.iload 4, 2) := by decide +kernel
theorem dX10_run_94 : decode cX10_run 94 = .ok (.if_icmp .ne 6, 3) := by decide +kernel
theorem dX10_run_97 : decode cX10_run 97 = .ok (.goto 9, 3) := by decide +kernel
theorem dX10_run_106 : decode cX10_run 106 = .ok (.iload_n 2, 1) := by decide +kernel
theorem dX10_run_107 : decode cX10_run 107 = .ok (.ifCond .ne 10, 3) := by decide +kernel
theorem dX10_run_110 : decode cX10_run 110 = .ok (.aload_n 0, 1) := by decide +kernel
theorem dX10_run_111 : decode cX10_run 111 = .ok (.bipush 8, 2) := by decide +kernel
theorem dX10_run_113 : decode cX10_run 113 = .ok (.invokevirtual 78, 3) := by decide +kernel
theorem dX10_run_116 : decode cX10_run 116 = .ok (.ireturn, 1) := by decide +kernel
theorem dX10_run_4 : decode cX10_run 4 = .ok (.aload_n 0, 1) := by decide +kernel
theorem dX10_run_5 : decode cX10_run 5 = .ok (.iconst 4, 1) := by decide +kernel
theorem dX10_run_6 : decode cX10_run 6 = .ok (.invokevirtual 78, 3) := by decide +kernel
theorem dX10_run_9 : decode cX10_run 9 = .ok (.ireturn, 1) := by decide +kernel
theorem dX10_undo_0 : decode cX10_undo 0 = .ok (.aload_n 0, 1) := by decide +kernel
theorem dX10_undo_1 : decode cX10_undo 1 = .ok (.getfield 61, 3) := by decide +kernel
theorem dX10_undo_4 : decode cX10_undo 4 = .ok (.aload_n 0, 1) := by decide +kernel
theorem dX10_undo_5 : decode cX10_undo 5 = .ok (.getfield 65, 3) := by decide +kernel
theorem dX10_undo_8 : decode cX10_undo 8 = .ok (.if_icmp .le 17, 3) := by decide +kernel
theorem dX10_undo_25 : decode cX10_undo 25 = .ok (.aload_n 0, 1) := by decide +kernel
theorem dX10_undo_26 : decode cX10_undo 26 = .ok (.bipush 8, 2) := by decide +kernel
theorem dX10_undo_28 : decode cX10_undo 28 = .ok (.invokevirtual 78, 3) := by decide +kernel
theorem dX10_undo_31 : decode cX10_undo 31 = .ok (.ireturn, 1) := by decide +kernel
theorem dX10_redo_0 : decode cX10_redo 0 = .ok (.aload_n 0, 1) := by decide +kernel
theorem dX10_redo_1 : decode cX10_redo 1 = .ok (.getfield 61, 3) := by decide +kernel
theorem dX10_redo_4 : decode cX10_redo 4 = .ok (.aload_n 0, 1) := by decide +kernel
theorem dX10_redo_5 : decode cX10_redo 5 = .ok (.getfield 57, 3) := by decide +kernel
theorem dX10_redo_8 : decode cX10_redo 8 = .ok (.invokevirtual 244, 3) := by decide +kernel
theorem dX10_redo_11 : decode cX10_redo 11 = .ok (.if_icmp .lt 10, 3) := by decide +kernel
theorem dX10_redo_14 : decode cX10_redo 14 = .ok (.aload_n 0, 1) := by decide +kernel
theorem dX10_redo_15 : decode cX10_redo 15 = .ok (.bipush 8, 2) := by decide +kernel
theorem dX10_redo_17 : decode cX10_redo 17 = .ok (.invokevirtual 78, 3) := by decide +kernel
theorem dX10_redo_20 : decode cX10_redo 20 = .ok (.ireturn, 1) := by decide +kernel
theorem dX10_meets_0 : decode cX10_meets 0 = .ok (.aload_n 0, 1) := by decide +kernel
theorem dX10_meets_1 : decode cX10_meets 1 = .ok (.getfield 12, 3) := by decide +kernel
theorem dX10_meets_4 : decode cX10_meets 4 = .ok (.iload_n 1, 1) := by decide +kernel
theorem dX10_meets_5 : decode cX10_meets 5 = .ok (.invokevirtual 240, 3) := by decide +kernel
theorem dX10_meets_8 : decode cX10_meets 8 = .ok (.astore_n 3, 1) := by decide +kernel
theorem dX10_meets_9 : decode cX10_meets 9 = .ok (.aload_n 0, 1) := by decide +kernel
theorem dX10_meets_10 : decode cX10_meets 10 = .ok (.getfield 12, 3) := by decide +kernel
theorem dX10_meets_13 : decode cX10_meets 13 = .ok (.iload_n 2, 1) := by decide +kernel
theorem dX10_meets_14 : decode cX10_meets 14 = .ok (.invokevirtual 240, 3) := by decide +kernel
theorem dX10_meets_17 : decode cX10_meets 17 = .ok (.astore 4, 2) := by decide +kernel
theorem dX10_meets_19 : decode cX10_meets 19 = .ok (.aload_n 3, 1) := by decide +kernel
theorem dX10_meets_20 : decode cX10_meets 20 = .ok (.ifnull 21, 3) := by decide +kernel
theorem dX10_meets_41 : decode cX10_meets 41 = .ok (.iconst 0, 1) := by decide +kernel
theorem dX10_meets_42 : decode cX10_meets 42 = .ok (.ireturn, 1) := by decide +kernel
theorem dX10_inside_0 : decode cX10_inside 0 = .ok (.aload_n 0, 1) := by decide +kernel
theorem dX10_inside_1 : decode cX10_inside 1 = .ok (.getfield 12, 3) := by decide +kernel
theorem dX10_inside_4 : decode cX10_inside 4 = .ok (.iload_n 3, 1) := by decide +kernel
theorem dX10_inside_5 : decode cX10_inside 5 = .ok (.invokevirtual 240, 3) := by decide +kernel
theorem dX10_inside_8 : decode cX10_inside 8 = .ok (.astore 4, 2) := by decide +kernel
theorem dX10_inside_10 : decode cX10_inside 10 = .ok (.aload 4, 2) := by decide +kernel
theorem dX10_inside_12 : decode cX10_inside 12 = .ok (.ifnull 19, 3) := by decide +kernel
theorem dX10_inside_31 : decode cX10_inside 31 = .ok (.iconst (-1), 1) := by decide +kernel
theorem dX10_inside_32 : decode cX10_inside 32 = .ok (.ireturn, 1) := by decide +kernel
theorem dX10_side_0 : decode cX10_side 0 = .ok (.aload_n 0, 1) := by decide +kernel
theorem dX10_side_1 : decode cX10_side 1 = .ok (.getfield 12, 3) := by decide +kernel
theorem dX10_side_4 : decode cX10_side 4 = .ok (.iload_n 3, 1) := by decide +kernel
theorem dX10_side_5 : decode cX10_side 5 = .ok (.invokevirtual 116, 3) := by decide +kernel
theorem dX10_side_8 : decode cX10_side 8 = .ok (.astore 5, 2) := by decide +kernel
theorem dX10_side_10 : decode cX10_side 10 = .ok (.aload 5, 2) := by decide +kernel
theorem dX10_side_12 : decode cX10_side 12 = .ok (.ifnonnull 7, 3) := by decide +kernel
theorem dX10_side_15 : decode cX10_side 15 = .ok (.aconst_null, 1) := by decide +kernel
theorem dX10_side_16 : decode cX10_side 16 = .ok (.goto 11, 3) := by decide +kernel
theorem dX10_side_27 : decode cX10_side 27 = .ok (.astore 6, 2) := by decide +kernel
theorem dX10_side_29 : decode cX10_side 29 = .ok (.aload 6, 2) := by decide +kernel
theorem dX10_side_31 : decode cX10_side 31 = .ok (.ifnull 26, 3) := by decide +kernel
theorem dX10_side_57 : decode cX10_side 57 = .ok (.iconst 0, 1) := by decide +kernel
theorem dX10_side_58 : decode cX10_side 58 = .ok (.ireturn, 1) := by decide +kernel
theorem dX10_near_0 : decode cX10_near 0 = .ok (.aload_n 0, 1) := by decide +kernel
theorem dX10_near_1 : decode cX10_near 1 = .ok (.getfield 12, 3) := by decide +kernel
theorem dX10_near_4 : decode cX10_near 4 = .ok (.iload_n 1, 1) := by decide +kernel
theorem dX10_near_5 : decode cX10_near 5 = .ok (.invokevirtual 240, 3) := by decide +kernel
theorem dX10_near_8 : decode cX10_near 8 = .ok (.astore 4, 2) := by decide +kernel
theorem dX10_near_10 : decode cX10_near 10 = .ok (.aload_n 0, 1) := by decide +kernel
theorem dX10_near_11 : decode cX10_near 11 = .ok (.getfield 12, 3) := by decide +kernel
theorem dX10_near_14 : decode cX10_near 14 = .ok (.iload_n 2, 1) := by decide +kernel
theorem dX10_near_15 : decode cX10_near 15 = .ok (.invokevirtual 240, 3) := by decide +kernel
theorem dX10_near_18 : decode cX10_near 18 = .ok (.astore 5, 2) := by decide +kernel
theorem dX10_near_20 : decode cX10_near 20 = .ok (.aload 4, 2) := by decide +kernel
theorem dX10_near_22 : decode cX10_near 22 = .ok (.ifnull 17, 3) := by decide +kernel
theorem dX10_near_39 : decode cX10_near 39 = .ok (.ldc2_w 285, 3) := by decide +kernel
theorem dX10_near_42 : decode cX10_near 42 = .ok (.lreturn, 1) := by decide +kernel
theorem dX10_nextClash_0 : decode cX10_nextClash 0 = .ok (.iload_n 2, 1) := by decide +kernel
theorem dX10_nextClash_1 : decode cX10_nextClash 1 = .ok (.sipush 200, 3) := by decide +kernel
theorem dX10_nextClash_4 : decode cX10_nextClash 4 = .ok (.idiv, 1) := by decide +kernel
theorem dX10_nextClash_5 : decode cX10_nextClash 5 = .ok (.istore_n 3, 1) := by decide +kernel
theorem dX10_nextClash_6 : decode cX10_nextClash 6 = .ok (.iload_n 3, 1) := by decide +kernel
theorem dX10_nextClash_7 : decode cX10_nextClash 7 = .ok (.istore 4, 2) := by decide +kernel
theorem dX10_nextClash_9 : decode cX10_nextClash 9 = .ok (.iload 4, 2) := by decide +kernel
theorem dX10_nextClash_11 : decode cX10_nextClash 11 = .ok (.aload_n 0, 1) := by decide +kernel
theorem dX10_nextClash_12 : decode cX10_nextClash 12 = .ok (.getfield 12, 3) := by decide +kernel
theorem dX10_nextClash_15 : decode cX10_nextClash 15 = .ok (.getfield 224, 3) := by decide +kernel
theorem dX10_nextClash_18 : decode cX10_nextClash 18 = .ok (.if_icmp .ge 73, 3) := by decide +kernel
theorem dX10_nextClash_91 : decode cX10_nextClash 91 = .ok (.iconst (-1), 1) := by decide +kernel
theorem dX10_nextClash_92 : decode cX10_nextClash 92 = .ok (.ireturn, 1) := by decide +kernel
theorem dX10_clashes_0 : decode cX10_clashes 0 = .ok (.iload_n 1, 1) := by decide +kernel
theorem dX10_clashes_1 : decode cX10_clashes 1 = .ok (.iconst 0, 1) := by decide +kernel
theorem dX10_clashes_2 : decode cX10_clashes 2 = .ok (.sipush 200, 3) := by decide +kernel
theorem dX10_clashes_5 : decode cX10_clashes 5 = .ok (.invokestatic 74, 3) := by decide +kernel
theorem dX10_clashes_8 : decode cX10_clashes 8 = .ok (.ifCond .ne 5, 3) := by decide +kernel
theorem dX10_clashes_13 : decode cX10_clashes 13 = .ok (.iconst 0, 1) := by decide +kernel
theorem dX10_clashes_14 : decode cX10_clashes 14 = .ok (.istore_n 2, 1) := by decide +kernel
theorem dX10_clashes_15 : decode cX10_clashes 15 = .ok (.aload_n 0, 1) := by decide +kernel
theorem dX10_clashes_16 : decode cX10_clashes 16 = .ok (.iload_n 1, 1) := by decide +kernel
theorem dX10_clashes_17 : decode cX10_clashes 17 = .ok (.iconst 0, 1) := by decide +kernel
theorem dX10_clashes_18 : decode cX10_clashes 18 = .ok (.invokevirtual 291, 3) := by decide +kernel
theorem dX10_clashes_21 : decode cX10_clashes 21 = .ok (.istore_n 3, 1) := by decide +kernel
theorem dX10_clashes_22 : decode cX10_clashes 22 = .ok (.iconst 0, 1) := by decide +kernel
theorem dX10_clashes_23 : decode cX10_clashes 23 = .ok (.istore 4, 2) := by decide +kernel
theorem dX10_clashes_25 : decode cX10_clashes 25 = .ok (.iload 4, 2) := by decide +kernel
theorem dX10_clashes_27 : decode cX10_clashes 27 = .ok (.ldc_w 294, 3) := by decide +kernel
theorem dX10_clashes_30 : decode cX10_clashes 30 = .ok (.if_icmp .ge 24, 3) := by decide +kernel
theorem dX10_clashes_33 : decode cX10_clashes 33 = .ok (.iload_n 3, 1) := by decide +kernel
theorem dX10_clashes_34 : decode cX10_clashes 34 = .ok (.iconst (-1), 1) := by decide +kernel
theorem dX10_clashes_35 : decode cX10_clashes 35 = .ok (.if_icmp .eq 19, 3) := by decide +kernel
theorem dX10_clashes_54 : decode cX10_clashes 54 = .ok (.iload_n 2, 1) := by decide +kernel
theorem dX10_clashes_55 : decode cX10_clashes 55 = .ok (.ireturn, 1) := by decide +kernel
theorem dX10_clashes_11 : decode cX10_clashes 11 = .ok (.iconst (-1), 1) := by decide +kernel
theorem dX10_clashes_12 : decode cX10_clashes 12 = .ok (.ireturn, 1) := by decide +kernel
theorem dX10_clash_0 : decode cX10_clash 0 = .ok (.iload_n 1, 1) := by decide +kernel
theorem dX10_clash_1 : decode cX10_clash 1 = .ok (.iconst 0, 1) := by decide +kernel
theorem dX10_clash_2 : decode cX10_clash 2 = .ok (.sipush 200, 3) := by decide +kernel
theorem dX10_clash_5 : decode cX10_clash 5 = .ok (.invokestatic 74, 3) := by decide +kernel
theorem dX10_clash_8 : decode cX10_clash 8 = .ok (.ifCond .eq 14, 3) := by decide +kernel
theorem dX10_clash_22 : decode cX10_clash 22 = .ok (.iconst (-1), 1) := by decide +kernel
theorem dX10_clash_23 : decode cX10_clash 23 = .ok (.ireturn, 1) := by decide +kernel
theorem dX10_clash_11 : decode cX10_clash 11 = .ok (.iload_n 2, 1) := by decide +kernel
theorem dX10_clash_12 : decode cX10_clash 12 = .ok (.iconst 0, 1) := by decide +kernel
theorem dX10_clash_13 : decode cX10_clash 13 = .ok (.ldc_w 294, 3) := by decide +kernel
theorem dX10_clash_16 : decode cX10_clash 16 = .ok (.invokestatic 74, 3) := by decide +kernel
theorem dX10_clash_19 : decode cX10_clash 19 = .ok (.ifCond .ne 5, 3) := by decide +kernel
theorem dX10_clash_24 : decode cX10_clash 24 = .ok (.iload_n 3, 1) := by decide +kernel
theorem dX10_clash_25 : decode cX10_clash 25 = .ok (.iconst 0, 1) := by decide +kernel
theorem dX10_clash_26 : decode cX10_clash 26 = .ok (.iconst 1, 1) := by decide +kernel
theorem dX10_clash_27 : decode cX10_clash 27 = .ok (.invokestatic 74, 3) := by decide +kernel
theorem dX10_clash_30 : decode cX10_clash 30 = .ok (.ifCond .ne 5, 3) := by decide +kernel
theorem dX10_clash_35 : decode cX10_clash 35 = .ok (.aload_n 0, 1) := by decide +kernel
theorem dX10_clash_36 : decode cX10_clash 36 = .ok (.iload_n 1, 1) := by decide +kernel
theorem dX10_clash_37 : decode cX10_clash 37 = .ok (.iconst 0, 1) := by decide +kernel
theorem dX10_clash_38 : decode cX10_clash 38 = .ok (.invokevirtual 291, 3) := by decide +kernel
theorem dX10_clash_41 : decode cX10_clash 41 = .ok (.istore 4, 2) := by decide +kernel
