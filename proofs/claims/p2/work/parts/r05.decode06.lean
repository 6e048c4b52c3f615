theorem dX11_tell_144 : decode cX11_tell 144 = .ok (.if_icmp .ne 7, 3) := by decide +kernel
theorem dX11_tell_147 : decode cX11_tell 147 = .ok (.iload_n 2, 1) := by decide +kernel
theorem dX11_tell_148 : decode cX11_tell 148 = .ok (.goto 4, 3) := by decide +kernel
theorem dX11_tell_151 : decode cX11_tell 151 = .ok (.iconst (-1), 1) := by decide +kernel
theorem dX11_tell_152 : decode cX11_tell 152 = .ok (.iload 4, 2) := by decide +kernel
theorem dX11_tell_154 : decode cX11_tell 154 = .ok (.invokevirtual 331, 3) := by decide +kernel
theorem dX11_tell_157 : decode cX11_tell 157 = .ok (.istore 6, 2) := by decide +kernel
theorem dX11_tell_159 : decode cX11_tell 159 = .ok (.iload 4, 2) := by decide +kernel
theorem dX11_tell_161 : decode cX11_tell 161 = .ok (.ireturn, 1) := by decide +kernel
theorem dX11_squeeze_0 : decode cX11_squeeze 0 = .ok (.iconst 0, 1) := by decide +kernel
theorem dX11_squeeze_1 : decode cX11_squeeze 1 = .ok (.istore_n 2, 1) := by decide +kernel
theorem dX11_squeeze_2 : decode cX11_squeeze 2 = .ok (.iconst 0, 1) := by decide +kernel
theorem dX11_squeeze_3 : decode cX11_squeeze 3 = .ok (.istore_n 3, 1) := by decide +kernel
theorem dX11_squeeze_4 : decode cX11_squeeze 4 = .ok (.iload_n 3, 1) := by decide +kernel
theorem dX11_squeeze_5 : decode cX11_squeeze 5 = .ok (.aload_n 0, 1) := by decide +kernel
theorem dX11_squeeze_6 : decode cX11_squeeze 6 = .ok (.getfield 279, 3) := by decide +kernel
theorem dX11_squeeze_9 : decode cX11_squeeze 9 = .ok (.if_icmp .ge 81, 3) := by decide +kernel
theorem dX11_squeeze_12 : decode cX11_squeeze 12 = .ok (.iload_n 3, 1) := by decide +kernel
theorem dX11_squeeze_13 : decode cX11_squeeze 13 = .ok (.iload_n 1, 1) := by decide +kernel
theorem dX11_squeeze_14 : decode cX11_squeeze 14 = .ok (.if_icmp .ge 19, 3) := by decide +kernel
theorem dX11_squeeze_17 : decode cX11_squeeze 17 = .ok (.aload_n 0, 1) := by decide +kernel
theorem dX11_squeeze_18 : decode cX11_squeeze 18 = .ok (.getfield 68, 3) := by decide +kernel
theorem dX11_squeeze_21 : decode cX11_squeeze 21 = .ok (.iload_n 3, 1) := by decide +kernel
theorem dX11_squeeze_22 : decode cX11_squeeze 22 = .ok (.iaload, 1) := by decide +kernel
theorem dX11_squeeze_23 : decode cX11_squeeze 23 = .ok (.aload_n 0, 1) := by decide +kernel
theorem dX11_squeeze_24 : decode cX11_squeeze 24 = .ok (.getfield 257, 3) := by decide +kernel
theorem dX11_squeeze_27 : decode cX11_squeeze 27 = .ok (.if_icmp .le 6, 3) := by decide +kernel
theorem dX11_squeeze_30 : decode cX11_squeeze 30 = .ok (.goto 54, 3) := by decide +kernel
theorem dX11_squeeze_33 : decode cX11_squeeze 33 = .ok (.aload_n 0, 1) := by decide +kernel
theorem dX11_squeeze_34 : decode cX11_squeeze 34 = .ok (.getfield 59, 3) := by decide +kernel
theorem dX11_squeeze_37 : decode cX11_squeeze 37 = .ok (.iload_n 2, 1) := by decide +kernel
theorem dX11_squeeze_38 : decode cX11_squeeze 38 = .ok (.aload_n 0, 1) := by decide +kernel
theorem dX11_squeeze_39 : decode cX11_squeeze 39 = .ok (.getfield 59, 3) := by decide +kernel
theorem dX11_squeeze_42 : decode cX11_squeeze 42 = .ok (.iload_n 3, 1) := by decide +kernel
theorem dX11_squeeze_43 : decode cX11_squeeze 43 = .ok (.iaload, 1) := by decide +kernel
theorem dX11_squeeze_44 : decode cX11_squeeze 44 = .ok (.iastore, 1) := by decide +kernel
theorem dX11_squeeze_45 : decode cX11_squeeze 45 = .ok (.aload_n 0, 1) := by decide +kernel
theorem dX11_squeeze_46 : decode cX11_squeeze 46 = .ok (.getfield 62, 3) := by decide +kernel
theorem dX11_squeeze_49 : decode cX11_squeeze 49 = .ok (.iload_n 2, 1) := by decide +kernel
theorem dX11_squeeze_50 : decode cX11_squeeze 50 = .ok (.aload_n 0, 1) := by decide +kernel
theorem dX11_squeeze_51 : decode cX11_squeeze 51 = .ok (.getfield 62, 3) := by decide +kernel
theorem dX11_squeeze_54 : decode cX11_squeeze 54 = .ok (.iload_n 3, 1) := by decide +kernel
theorem dX11_squeeze_55 : decode cX11_squeeze 55 = .ok (.iaload, 1) := by decide +kernel
theorem dX11_squeeze_56 : decode cX11_squeeze 56 = .ok (.iastore, 1) := by decide +kernel
theorem dX11_squeeze_57 : decode cX11_squeeze 57 = .ok (.aload_n 0, 1) := by decide +kernel
theorem dX11_squeeze_58 : decode cX11_squeeze 58 = .ok (.getfield 65, 3) := by decide +kernel
theorem dX11_squeeze_61 : decode cX11_squeeze 61 = .ok (.iload_n 2, 1) := by decide +kernel
theorem dX11_squeeze_62 : decode cX11_squeeze 62 = .ok (.aload_n 0, 1) := by decide +kernel
theorem dX11_squeeze_63 : decode cX11_squeeze 63 = .ok (.getfield 65, 3) := by decide +kernel
theorem dX11_squeeze_66 : decode cX11_squeeze 66 = .ok (.iload_n 3, 1) := by decide +kernel
theorem dX11_squeeze_67 : decode cX11_squeeze 67 = .ok (.iaload, 1) := by decide +kernel
theorem dX11_squeeze_68 : decode cX11_squeeze 68 = .ok (.iastore, 1) := by decide +kernel
theorem dX11_squeeze_69 : decode cX11_squeeze 69 = .ok (.aload_n 0, 1) := by decide +kernel
theorem dX11_squeeze_70 : decode cX11_squeeze 70 = .ok (.getfield 68, 3) := by decide +kernel
theorem dX11_squeeze_73 : decode cX11_squeeze 73 = .ok (.iload_n 2, 1) := by decide +kernel
theorem dX11_squeeze_74 : decode cX11_squeeze 74 = .ok (.aload_n 0, 1) := by decide +kernel
theorem dX11_squeeze_75 : decode cX11_squeeze 75 = .ok (.getfield 68, 3) := by decide +kernel
theorem dX11_squeeze_78 : decode cX11_squeeze 78 = .ok (.iload_n 3, 1) := by decide +kernel
theorem dX11_squeeze_79 : decode cX11_squeeze 79 = .ok (.iaload, 1) := by decide +kernel
theorem dX11_squeeze_80 : decode cX11_squeeze 80 = .ok (.iastore, 1) := by decide +kernel
theorem dX11_squeeze_81 : decode cX11_squeeze 81 = .ok (.iinc 2 1, 3) := by decide +kernel
theorem dX11_squeeze_84 : decode cX11_squeeze 84 = .ok (.iinc 3 1, 3) := by decide +kernel
theorem dX11_squeeze_87 : decode cX11_squeeze 87 = .ok (.goto (-83), 3) := by decide +kernel
theorem dX11_squeeze_90 : decode cX11_squeeze 90 = .ok (.aload_n 0, 1) := by decide +kernel
theorem dX11_squeeze_91 : decode cX11_squeeze 91 = .ok (.iload_n 2, 1) := by decide +kernel
theorem dX11_squeeze_92 : decode cX11_squeeze 92 = .ok (.putfield 279, 3) := by decide +kernel
theorem dX11_squeeze_95 : decode cX11_squeeze 95 = .ok (.return_, 1) := by decide +kernel
theorem dX11_run_0 : decode cX11_run 0 = .ok (.iload_n 1, 1) := by decide +kernel
theorem dX11_run_1 : decode cX11_run 1 = .ok (.ifCond .ge 9, 3) := by decide +kernel
theorem dX11_run_4 : decode cX11_run 4 = .ok (.aload_n 0, 1) := by decide +kernel
theorem dX11_run_5 : decode cX11_run 5 = .ok (.iconst 4, 1) := by decide +kernel
theorem dX11_run_6 : decode cX11_run 6 = .ok (.invokevirtual 126, 3) := by decide +kernel
theorem dX11_run_9 : decode cX11_run 9 = .ok (.ireturn, 1) := by decide +kernel
theorem dX11_run_10 : decode cX11_run 10 = .ok (.aload_n 0, 1) := by decide +kernel
theorem dX11_run_11 : decode cX11_run 11 = .ok (.bipush 10, 2) := by decide +kernel
theorem dX11_run_13 : decode cX11_run 13 = .ok (.iconst (-1), 1) := by decide +kernel
theorem dX11_run_14 : decode cX11_run 14 = .ok (.iload_n 1, 1) := by decide +kernel
theorem dX11_run_15 : decode cX11_run 15 = .ok (.invokevirtual 318, 3) := by decide +kernel
theorem dX11_run_18 : decode cX11_run 18 = .ok (.ireturn, 1) := by decide +kernel
theorem dX11_changes_0 : decode cX11_changes 0 = .ok (.aload_n 0, 1) := by decide +kernel
theorem dX11_changes_1 : decode cX11_changes 1 = .ok (.iload_n 1, 1) := by decide +kernel
theorem dX11_changes_2 : decode cX11_changes 2 = .ok (.iload_n 2, 1) := by decide +kernel
theorem dX11_changes_3 : decode cX11_changes 3 = .ok (.iconst (-1), 1) := by decide +kernel
theorem dX11_changes_4 : decode cX11_changes 4 = .ok (.invokevirtual 288, 3) := by decide +kernel
theorem dX11_changes_7 : decode cX11_changes 7 = .ok (.ifCond .ne 15, 3) := by decide +kernel
theorem dX11_changes_10 : decode cX11_changes 10 = .ok (.aload_n 0, 1) := by decide +kernel
theorem dX11_changes_11 : decode cX11_changes 11 = .ok (.iload_n 1, 1) := by decide +kernel
theorem dX11_changes_12 : decode cX11_changes 12 = .ok (.invokevirtual 291, 3) := by decide +kernel
theorem dX11_changes_15 : decode cX11_changes 15 = .ok (.aload_n 0, 1) := by decide +kernel
theorem dX11_changes_16 : decode cX11_changes 16 = .ok (.bipush 7, 2) := by decide +kernel
theorem dX11_changes_18 : decode cX11_changes 18 = .ok (.invokevirtual 276, 3) := by decide +kernel
theorem dX11_changes_21 : decode cX11_changes 21 = .ok (.ireturn, 1) := by decide +kernel
theorem dX11_changes_22 : decode cX11_changes 22 = .ok (.aload_n 0, 1) := by decide +kernel
theorem dX11_changes_23 : decode cX11_changes 23 = .ok (.iload_n 1, 1) := by decide +kernel
theorem dX11_changes_24 : decode cX11_changes 24 = .ok (.invokevirtual 230, 3) := by decide +kernel
theorem dX11_changes_27 : decode cX11_changes 27 = .ok (.aload_n 0, 1) := by decide +kernel
theorem dX11_changes_28 : decode cX11_changes 28 = .ok (.getfield 7, 3) := by decide +kernel
theorem dX11_changes_31 : decode cX11_changes 31 = .ok (.iload_n 1, 1) := by decide +kernel
theorem dX11_changes_32 : decode cX11_changes 32 = .ok (.iaload, 1) := by decide +kernel
theorem dX11_changes_33 : decode cX11_changes 33 = .ok (.istore_n 3, 1) := by decide +kernel
theorem dX11_changes_34 : decode cX11_changes 34 = .ok (.aload_n 0, 1) := by decide +kernel
theorem dX11_changes_35 : decode cX11_changes 35 = .ok (.iload_n 1, 1) := by decide +kernel
theorem dX11_changes_36 : decode cX11_changes 36 = .ok (.invokevirtual 291, 3) := by decide +kernel
theorem dX11_changes_39 : decode cX11_changes 39 = .ok (.aload_n 0, 1) := by decide +kernel
theorem dX11_changes_40 : decode cX11_changes 40 = .ok (.invokevirtual 322, 3) := by decide +kernel
theorem dX11_changes_43 : decode cX11_changes 43 = .ok (.aload_n 0, 1) := by decide +kernel
theorem dX11_changes_44 : decode cX11_changes 44 = .ok (.getfield 7, 3) := by decide +kernel
theorem dX11_changes_47 : decode cX11_changes 47 = .ok (.iload_n 1, 1) := by decide +kernel
theorem dX11_changes_48 : decode cX11_changes 48 = .ok (.iload_n 3, 1) := by decide +kernel
theorem dX11_changes_49 : decode cX11_changes 49 = .ok (.iastore, 1) := by decide +kernel
theorem dX11_changes_50 : decode cX11_changes 50 = .ok (.aload_n 0, 1) := by decide +kernel
theorem dX11_changes_51 : decode cX11_changes 51 = .ok (.iload_n 1, 1) := by decide +kernel
theorem dX11_changes_52 : decode cX11_changes 52 = .ok (.invokevirtual 334, 3) := by decide +kernel
theorem dX11_changes_55 : decode cX11_changes 55 = .ok (.aload_n 0, 1) := by decide +kernel
theorem dX11_changes_56 : decode cX11_changes 56 = .ok (.aload_n 0, 1) := by decide +kernel
theorem dX11_changes_57 : decode cX11_changes 57 = .ok (.getfield 279, 3) := by decide +kernel
theorem dX11_changes_60 : decode cX11_changes 60 = .ok (.invokevirtual 328, 3) := by decide +kernel
theorem dX11_changes_63 : decode cX11_changes 63 = .ok (.aload_n 0, 1) := by decide +kernel
theorem dX11_changes_64 : decode cX11_changes 64 = .ok (.iload_n 2, 1) := by decide +kernel
theorem dX11_changes_65 : decode cX11_changes 65 = .ok (.iload_n 1, 1) := by decide +kernel
theorem dX11_changes_66 : decode cX11_changes 66 = .ok (.iconst 0, 1) := by decide +kernel
theorem dX11_changes_67 : decode cX11_changes 67 = .ok (.invokevirtual 331, 3) := by decide +kernel
theorem dX11_changes_70 : decode cX11_changes 70 = .ok (.istore 4, 2) := by decide +kernel
theorem dX11_changes_72 : decode cX11_changes 72 = .ok (.iconst 1, 1) := by decide +kernel
theorem dX11_changes_73 : decode cX11_changes 73 = .ok (.ireturn, 1) := by decide +kernel
theorem dX11_moves_0 : decode cX11_moves 0 = .ok (.iconst 0, 1) := by decide +kernel
theorem dX11_moves_1 : decode cX11_moves 1 = .ok (.istore_n 2, 1) := by decide +kernel
theorem dX11_moves_2 : decode cX11_moves 2 = .ok (.iload_n 2, 1) := by decide +kernel
theorem dX11_moves_3 : decode cX11_moves 3 = .ok (.aload_n 0, 1) := by decide +kernel
theorem dX11_moves_4 : decode cX11_moves 4 = .ok (.getfield 191, 3) := by decide +kernel
theorem dX11_moves_7 : decode cX11_moves 7 = .ok (.if_icmp .ge 51, 3) := by decide +kernel
theorem dX11_moves_10 : decode cX11_moves 10 = .ok (.aload_n 0, 1) := by decide +kernel
theorem dX11_moves_11 : decode cX11_moves 11 = .ok (.getfield 44, 3) := by decide +kernel
theorem dX11_moves_14 : decode cX11_moves 14 = .ok (.bipush 40, 2) := by decide +kernel
theorem dX11_moves_16 : decode cX11_moves 16 = .ok (.iload_n 1, 1) := by decide +kernel
theorem dX11_moves_17 : decode cX11_moves 17 = .ok (.imul, 1) := by decide +kernel
theorem dX11_moves_18 : decode cX11_moves 18 = .ok (.iload_n 2, 1) := by decide +kernel
theorem dX11_moves_19 : decode cX11_moves 19 = .ok (.iadd, 1) := by decide +kernel
theorem dX11_moves_20 : decode cX11_moves 20 = .ok (.iaload, 1) := by decide +kernel
theorem dX11_moves_21 : decode cX11_moves 21 = .ok (.aload_n 0, 1) := by decide +kernel
theorem dX11_moves_22 : decode cX11_moves 22 = .ok (.getfield 86, 3) := by decide +kernel
theorem dX11_moves_25 : decode cX11_moves 25 = .ok (.iload_n 2, 1) := by decide +kernel
theorem dX11_moves_26 : decode cX11_moves 26 = .ok (.iaload, 1) := by decide +kernel
theorem dX11_moves_27 : decode cX11_moves 27 = .ok (.if_icmp .ne 23, 3) := by decide +kernel
theorem dX11_moves_30 : decode cX11_moves 30 = .ok (.aload_n 0, 1) := by decide +kernel
theorem dX11_moves_31 : decode cX11_moves 31 = .ok (.getfield 47, 3) := by decide +kernel
theorem dX11_moves_34 : decode cX11_moves 34 = .ok (.bipush 40, 2) := by decide +kernel
theorem dX11_moves_36 : decode cX11_moves 36 = .ok (.iload_n 1, 1) := by decide +kernel
theorem dX11_moves_37 : decode cX11_moves 37 = .ok (.imul, 1) := by decide +kernel
theorem dX11_moves_38 : decode cX11_moves 38 = .ok (.iload_n 2, 1) := by decide +kernel
theorem dX11_moves_39 : decode cX11_moves 39 = .ok (.iadd, 1) := by decide +kernel
theorem dX11_moves_40 : decode cX11_moves 40 = .ok (.iaload, 1) := by decide +kernel
theorem dX11_moves_41 : decode cX11_moves 41 = .ok (.aload_n 0, 1) := by decide +kernel
theorem dX11_moves_42 : decode cX11_moves 42 = .ok (.getfield 89, 3) := by decide +kernel
theorem dX11_moves_45 : decode cX11_moves 45 = .ok (.iload_n 2, 1) := by decide +kernel
theorem dX11_moves_46 : decode cX11_moves 46 = .ok (.iaload, 1) := by decide +kernel
theorem dX11_moves_47 : decode cX11_moves 47 = .ok (.if_icmp .eq 5, 3) := by decide +kernel
theorem dX11_moves_50 : decode cX11_moves 50 = .ok (.iconst 1, 1) := by decide +kernel
theorem dX11_moves_51 : decode cX11_moves 51 = .ok (.ireturn, 1) := by decide +kernel
theorem dX11_moves_52 : decode cX11_moves 52 = .ok (.iinc 2 1, 3) := by decide +kernel
theorem dX11_moves_55 : decode cX11_moves 55 = .ok (.goto (-53), 3) := by decide +kernel
theorem dX11_moves_58 : decode cX11_moves 58 = .ok (.iconst 0, 1) := by decide +kernel
theorem dX11_moves_59 : decode cX11_moves 59 = .ok (.ireturn, 1) := by decide +kernel
theorem dX11_smooth_0 : decode cX11_smooth 0 = .ok (.aload_n 0, 1) := by decide +kernel
theorem dX11_smooth_1 : decode cX11_smooth 1 = .ok (.iload_n 1, 1) := by decide +kernel
theorem dX11_smooth_2 : decode cX11_smooth 2 = .ok (.invokevirtual 312, 3) := by decide +kernel
theorem dX11_smooth_5 : decode cX11_smooth 5 = .ok (.istore_n 2, 1) := by decide +kernel
theorem dX11_smooth_6 : decode cX11_smooth 6 = .ok (.iload_n 2, 1) := by decide +kernel
theorem dX11_smooth_7 : decode cX11_smooth 7 = .ok (.ifCond .le 7, 3) := by decide +kernel
theorem dX11_smooth_10 : decode cX11_smooth 10 = .ok (.iload_n 2, 1) := by decide +kernel
theorem dX11_smooth_11 : decode cX11_smooth 11 = .ok (.goto 29, 3) := by decide +kernel
theorem dX11_smooth_14 : decode cX11_smooth 14 = .ok (.aload_n 0, 1) := by decide +kernel
theorem dX11_smooth_15 : decode cX11_smooth 15 = .ok (.iload_n 1, 1) := by decide +kernel
theorem dX11_smooth_16 : decode cX11_smooth 16 = .ok (.invokevirtual 315, 3) := by decide +kernel
theorem dX11_smooth_19 : decode cX11_smooth 19 = .ok (.ifCond .ne 7, 3) := by decide +kernel
theorem dX11_smooth_22 : decode cX11_smooth 22 = .ok (.iconst 3, 1) := by decide +kernel
theorem dX11_smooth_23 : decode cX11_smooth 23 = .ok (.goto 17, 3) := by decide +kernel
theorem dX11_smooth_26 : decode cX11_smooth 26 = .ok (.aload_n 0, 1) := by decide +kernel
theorem dX11_smooth_27 : decode cX11_smooth 27 = .ok (.getfield 25, 3) := by decide +kernel
theorem dX11_smooth_30 : decode cX11_smooth 30 = .ok (.iload_n 1, 1) := by decide +kernel
theorem dX11_smooth_31 : decode cX11_smooth 31 = .ok (.baload, 1) := by decide +kernel
theorem dX11_smooth_32 : decode cX11_smooth 32 = .ok (.ifCond .eq 7, 3) := by decide +kernel
theorem dX11_smooth_35 : decode cX11_smooth 35 = .ok (.iconst 5, 1) := by decide +kernel
theorem dX11_smooth_36 : decode cX11_smooth 36 = .ok (.goto 4, 3) := by decide +kernel
theorem dX11_smooth_39 : decode cX11_smooth 39 = .ok (.iconst 0, 1) := by decide +kernel
theorem dX11_smooth_40 : decode cX11_smooth 40 = .ok (.istore_n 2, 1) := by decide +kernel
theorem dX11_smooth_41 : decode cX11_smooth 41 = .ok (.iload_n 2, 1) := by decide +kernel
theorem dX11_smooth_42 : decode cX11_smooth 42 = .ok (.ifCond .le 9, 3) := by decide +kernel
theorem dX11_smooth_45 : decode cX11_smooth 45 = .ok (.aload_n 0, 1) := by decide +kernel
theorem dX11_smooth_46 : decode cX11_smooth 46 = .ok (.iload_n 2, 1) := by decide +kernel
theorem dX11_smooth_47 : decode cX11_smooth 47 = .ok (.invokevirtual 276, 3) := by decide +kernel
theorem dX11_smooth_50 : decode cX11_smooth 50 = .ok (.ireturn, 1) := by decide +kernel
theorem dX11_smooth_51 : decode cX11_smooth 51 = .ok (.aload_n 0, 1) := by decide +kernel
theorem dX11_smooth_52 : decode cX11_smooth 52 = .ok (.iload_n 1, 1) := by decide +kernel
theorem dX11_smooth_53 : decode cX11_smooth 53 = .ok (.invokevirtual 285, 3) := by decide +kernel
theorem dX11_smooth_56 : decode cX11_smooth 56 = .ok (.iconst 0, 1) := by decide +kernel
theorem dX11_smooth_57 : decode cX11_smooth 57 = .ok (.istore_n 3, 1) := by decide +kernel
theorem dX11_smooth_58 : decode cX11_smooth 58 = .ok (.iload_n 3, 1) := by decide +kernel
theorem dX11_smooth_59 : decode cX11_smooth 59 = .ok (.aload_n 0, 1) := by decide +kernel
theorem dX11_smooth_60 : decode cX11_smooth 60 = .ok (.getfield 191, 3) := by decide +kernel
theorem dX11_smooth_63 : decode cX11_smooth 63 = .ok (.if_icmp .ge 145, 3) := by decide +kernel
theorem dX11_smooth_66 : decode cX11_smooth 66 = .ok (.aload_n 0, 1) := by decide +kernel
theorem dX11_smooth_67 : decode cX11_smooth 67 = .ok (.iload_n 1, 1) := by decide +kernel
theorem dX11_smooth_68 : decode cX11_smooth 68 = .ok (.invokevirtual 161, 3) := by decide +kernel
theorem dX11_smooth_71 : decode cX11_smooth 71 = .ok (.ifCond .ne 20, 3) := by decide +kernel
theorem dX11_smooth_74 : decode cX11_smooth 74 = .ok (.iload_n 3, 1) := by decide +kernel
theorem dX11_smooth_75 : decode cX11_smooth 75 = .ok (.ifCond .eq 127, 3) := by decide +kernel
theorem dX11_smooth_78 : decode cX11_smooth 78 = .ok (.iload_n 3, 1) := by decide +kernel
theorem dX11_smooth_79 : decode cX11_smooth 79 = .ok (.aload_n 0, 1) := by decide +kernel
theorem dX11_smooth_80 : decode cX11_smooth 80 = .ok (.getfield 191, 3) := by decide +kernel
theorem dX11_smooth_83 : decode cX11_smooth 83 = .ok (.iconst 1, 1) := by decide +kernel
theorem dX11_smooth_84 : decode cX11_smooth 84 = .ok (.isub, 1) := by decide +kernel
theorem dX11_smooth_85 : decode cX11_smooth 85 = .ok (.if_icmp .ne 6, 3) := by decide +kernel
theorem dX11_smooth_88 : decode cX11_smooth 88 = .ok (.goto 114, 3) := by decide +kernel
theorem dX11_smooth_91 : decode cX11_smooth 91 = .ok (.iload_n 3, 1) := by decide +kernel
theorem dX11_smooth_92 : decode cX11_smooth 92 = .ok (.ifCond .ne 12, 3) := by decide +kernel
theorem dX11_smooth_95 : decode cX11_smooth 95 = .ok (.aload_n 0, 1) := by decide +kernel
theorem dX11_smooth_96 : decode cX11_smooth 96 = .ok (.getfield 191, 3) := by decide +kernel
theorem dX11_smooth_99 : decode cX11_smooth 99 = .ok (.iconst 1, 1) := by decide +kernel
theorem dX11_smooth_100 : decode cX11_smooth 100 = .ok (.isub, 1) := by decide +kernel
theorem dX11_smooth_101 : decode cX11_smooth 101 = .ok (.goto 6, 3) := by decide +kernel
theorem dX11_smooth_104 : decode cX11_smooth 104 = .ok (.iload_n 3, 1) := by decide +kernel
theorem dX11_smooth_105 : decode cX11_smooth 105 = .ok (.iconst 1, 1) := by decide +kernel
theorem dX11_smooth_106 : decode cX11_smooth 106 = .ok (.isub, 1) := by decide +kernel
theorem dX11_smooth_107 : decode cX11_smooth 107 = .ok (.istore 4, 2) := by decide +kernel
theorem dX11_smooth_109 : decode cX11_smooth 109 = .ok (.iload_n 3, 1) := by decide +kernel
theorem dX11_smooth_110 : decode cX11_smooth 110 = .ok (.iconst 1, 1) := by decide +kernel
theorem dX11_smooth_111 : decode cX11_smooth 111 = .ok (.iadd, 1) := by decide +kernel
theorem dX11_smooth_112 : decode cX11_smooth 112 = .ok (.aload_n 0, 1) := by decide +kernel
theorem dX11_smooth_113 : decode cX11_smooth 113 = .ok (.getfield 191, 3) := by decide +kernel
theorem dX11_smooth_116 : decode cX11_smooth 116 = .ok (.if_icmp .ne 7, 3) := by decide +kernel
theorem dX11_smooth_119 : decode cX11_smooth 119 = .ok (.iconst 0, 1) := by decide +kernel
theorem dX11_smooth_120 : decode cX11_smooth 120 = .ok (.goto 6, 3) := by decide +kernel
theorem dX11_smooth_123 : decode cX11_smooth 123 = .ok (.iload_n 3, 1) := by decide +kernel
theorem dX11_smooth_124 : decode cX11_smooth 124 = .ok (.iconst 1, 1) := by decide +kernel
theorem dX11_smooth_125 : decode cX11_smooth 125 = .ok (.iadd, 1) := by decide +kernel
theorem dX11_smooth_126 : decode cX11_smooth 126 = .ok (.istore 5, 2) := by decide +kernel
theorem dX11_smooth_128 : decode cX11_smooth 128 = .ok (.aload_n 0, 1) := by decide +kernel
theorem dX11_smooth_129 : decode cX11_smooth 129 = .ok (.getfield 44, 3) := by decide +kernel
theorem dX11_smooth_132 : decode cX11_smooth 132 = .ok (.bipush 40, 2) := by decide +kernel
theorem dX11_smooth_134 : decode cX11_smooth 134 = .ok (.iload_n 1, 1) := by decide +kernel
theorem dX11_smooth_135 : decode cX11_smooth 135 = .ok (.imul, 1) := by decide +kernel
theorem dX11_smooth_136 : decode cX11_smooth 136 = .ok (.iload_n 3, 1) := by decide +kernel
theorem dX11_smooth_137 : decode cX11_smooth 137 = .ok (.iadd, 1) := by decide +kernel
theorem dX11_smooth_138 : decode cX11_smooth 138 = .ok (.aload_n 0, 1) := by decide +kernel
theorem dX11_smooth_139 : decode cX11_smooth 139 = .ok (.getfield 86, 3) := by decide +kernel
theorem dX11_smooth_142 : decode cX11_smooth 142 = .ok (.iload 4, 2) := by decide +kernel
theorem dX11_smooth_144 : decode cX11_smooth 144 = .ok (.iaload, 1) := by decide +kernel
theorem dX11_smooth_145 : decode cX11_smooth 145 = .ok (.iconst 2, 1) := by decide +kernel
theorem dX11_smooth_146 : decode cX11_smooth 146 = .ok (.aload_n 0, 1) := by decide +kernel
theorem dX11_smooth_147 : decode cX11_smooth 147 = .ok (.getfield 86, 3) := by decide +kernel
theorem dX11_smooth_150 : decode cX11_smooth 150 = .ok (.iload_n 3, 1) := by decide +kernel
theorem dX11_smooth_151 : decode cX11_smooth 151 = .ok (.iaload, 1) := by decide +kernel
theorem dX11_smooth_152 : decode cX11_smooth 152 = .ok (.imul, 1) := by decide +kernel
theorem dX11_smooth_153 : decode cX11_smooth 153 = .ok (.iadd, 1) := by decide +kernel
theorem dX11_smooth_154 : decode cX11_smooth 154 = .ok (.aload_n 0, 1) := by decide +kernel
theorem dX11_smooth_155 : decode cX11_smooth 155 = .ok (.getfield 86, 3) := by decide +kernel
theorem dX11_smooth_158 : decode cX11_smooth 158 = .ok (.iload 5, 2) := by decide +kernel
theorem dX11_smooth_160 : decode cX11_smooth 160 = .ok (.iaload, 1) := by decide +kernel
theorem dX11_smooth_161 : decode cX11_smooth 161 = .ok (.iadd, 1) := by decide +kernel
theorem dX11_smooth_162 : decode cX11_smooth 162 = .ok (.iconst 4, 1) := by decide +kernel
theorem dX11_smooth_163 : decode cX11_smooth 163 = .ok (.idiv, 1) := by decide +kernel
theorem dX11_smooth_164 : decode cX11_smooth 164 = .ok (.iastore, 1) := by decide +kernel
theorem dX11_smooth_165 : decode cX11_smooth 165 = .ok (.aload_n 0, 1) := by decide +kernel
theorem dX11_smooth_166 : decode cX11_smooth 166 = .ok (.getfield 47, 3) := by decide +kernel
theorem dX11_smooth_169 : decode cX11_smooth 169 = .ok (.bipush 40, 2) := by decide +kernel
theorem dX11_smooth_171 : decode cX11_smooth 171 = .ok (.iload_n 1, 1) := by decide +kernel
theorem dX11_smooth_172 : decode cX11_smooth 172 = .ok (.imul, 1) := by decide +kernel
theorem dX11_smooth_173 : decode cX11_smooth 173 = .ok (.iload_n 3, 1) := by decide +kernel
theorem dX11_smooth_174 : decode cX11_smooth 174 = .ok (.iadd, 1) := by decide +kernel
theorem dX11_smooth_175 : decode cX11_smooth 175 = .ok (.aload_n 0, 1) := by decide +kernel
theorem dX11_smooth_176 : decode cX11_smooth 176 = .ok (.getfield 89, 3) := by decide +kernel
theorem dX11_smooth_179 : decode cX11_smooth 179 = .ok (.iload 4, 2) := by decide +kernel
theorem dX11_smooth_181 : decode cX11_smooth 181 = .ok (.iaload, 1) := by decide +kernel
theorem dX11_smooth_182 : decode cX11_smooth 182 = .ok (.iconst 2, 1) := by decide +kernel
theorem dX11_smooth_183 : decode cX11_smooth 183 = .ok (.aload_n 0, 1) := by decide +kernel
theorem dX11_smooth_184 : decode cX11_smooth 184 = .ok (.getfield 89, 3) := by decide +kernel
theorem dX11_smooth_187 : decode cX11_smooth 187 = .ok (.iload_n 3, 1) := by decide +kernel
theorem dX11_smooth_188 : decode cX11_smooth 188 = .ok (.iaload, 1) := by decide +kernel
theorem dX11_smooth_189 : decode cX11_smooth 189 = .ok (.imul, 1) := by decide +kernel
theorem dX11_smooth_190 : decode cX11_smooth 190 = .ok (.iadd, 1) := by decide +kernel
theorem dX11_smooth_191 : decode cX11_smooth 191 = .ok (.aload_n 0, 1) := by decide +kernel
theorem dX11_smooth_192 : decode cX11_smooth 192 = .ok (.getfield 89, 3) := by decide +kernel
theorem dX11_smooth_195 : decode cX11_smooth 195 = .ok (.iload 5, 2) := by decide +kernel
theorem dX11_smooth_197 : decode cX11_smooth 197 = .ok (.iaload, 1) := by decide +kernel
theorem dX11_smooth_198 : decode cX11_smooth 198 = .ok (.iadd, 1) := by decide +kernel
theorem dX11_smooth_199 : decode cX11_smooth 199 = .ok (.iconst 4, 1) := by decide +kernel
theorem dX11_smooth_200 : decode cX11_smooth 200 = .ok (.idiv, 1) := by decide +kernel
theorem dX11_smooth_201 : decode cX11_smooth 201 = .ok (.iastore, 1) := by decide +kernel
theorem dX11_smooth_202 : decode cX11_smooth 202 = .ok (.iinc 3 1, 3) := by decide +kernel
theorem dX11_smooth_205 : decode cX11_smooth 205 = .ok (.goto (-147), 3) := by decide +kernel
theorem dX11_smooth_208 : decode cX11_smooth 208 = .ok (.aload_n 0, 1) := by decide +kernel
theorem dX11_smooth_209 : decode cX11_smooth 209 = .ok (.iload_n 1, 1) := by decide +kernel
theorem dX11_smooth_210 : decode cX11_smooth 210 = .ok (.invokevirtual 337, 3) := by decide +kernel
theorem dX11_smooth_213 : decode cX11_smooth 213 = .ok (.ifCond .ne 10, 3) := by decide +kernel
theorem dX11_smooth_216 : decode cX11_smooth 216 = .ok (.aload_n 0, 1) := by decide +kernel
theorem dX11_smooth_217 : decode cX11_smooth 217 = .ok (.bipush 8, 2) := by decide +kernel
theorem dX11_smooth_219 : decode cX11_smooth 219 = .ok (.invokevirtual 276, 3) := by decide +kernel
theorem dX11_smooth_222 : decode cX11_smooth 222 = .ok (.ireturn, 1) := by decide +kernel
theorem dX11_smooth_223 : decode cX11_smooth 223 = .ok (.aload_n 0, 1) := by decide +kernel
theorem dX11_smooth_224 : decode cX11_smooth 224 = .ok (.iload_n 1, 1) := by decide +kernel
theorem dX11_smooth_225 : decode cX11_smooth 225 = .ok (.iconst 2, 1) := by decide +kernel
theorem dX11_smooth_226 : decode cX11_smooth 226 = .ok (.invokevirtual 340, 3) := by decide +kernel
theorem dX11_smooth_229 : decode cX11_smooth 229 = .ok (.ireturn, 1) := by decide +kernel
theorem dX11_wayOf_0 : decode cX11_wayOf 0 = .ok (.iload_n 3, 1) := by decide +kernel
theorem dX11_wayOf_1 : decode cX11_wayOf 1 = .ok (.iload_n 2, 1) := by decide +kernel
theorem dX11_wayOf_2 : decode cX11_wayOf 2 = .ok (.isub, 1) := by decide +kernel
theorem dX11_wayOf_3 : decode cX11_wayOf 3 = .ok (.invokestatic 179, 3) := by decide +kernel
theorem dX11_wayOf_6 : decode cX11_wayOf 6 = .ok (.istore 4, 2) := by decide +kernel
theorem dX11_wayOf_8 : decode cX11_wayOf 8 = .ok (.aload_n 0, 1) := by decide +kernel
theorem dX11_wayOf_9 : decode cX11_wayOf 9 = .ok (.iload_n 1, 1) := by decide +kernel
theorem dX11_wayOf_10 : decode cX11_wayOf 10 = .ok (.invokevirtual 161, 3) := by decide +kernel
theorem dX11_wayOf_13 : decode cX11_wayOf 13 = .ok (.ifCond .eq 18, 3) := by decide +kernel
theorem dX11_wayOf_16 : decode cX11_wayOf 16 = .ok (.iload 4, 2) := by decide +kernel
theorem dX11_wayOf_18 : decode cX11_wayOf 18 = .ok (.aload_n 0, 1) := by decide +kernel
theorem dX11_wayOf_19 : decode cX11_wayOf 19 = .ok (.getfield 191, 3) := by decide +kernel
theorem dX11_wayOf_22 : decode cX11_wayOf 22 = .ok (.iload 4, 2) := by decide +kernel
theorem dX11_wayOf_24 : decode cX11_wayOf 24 = .ok (.isub, 1) := by decide +kernel
theorem dX11_wayOf_25 : decode cX11_wayOf 25 = .ok (.invokestatic 144, 3) := by decide +kernel
theorem dX11_wayOf_28 : decode cX11_wayOf 28 = .ok (.goto 5, 3) := by decide +kernel
theorem dX11_wayOf_31 : decode cX11_wayOf 31 = .ok (.iload 4, 2) := by decide +kernel
theorem dX11_wayOf_33 : decode cX11_wayOf 33 = .ok (.ireturn, 1) := by decide +kernel
theorem dX11_shift_0 : decode cX11_shift 0 = .ok (.aload_n 0, 1) := by decide +kernel
theorem dX11_shift_1 : decode cX11_shift 1 = .ok (.iload_n 1, 1) := by decide +kernel
theorem dX11_shift_2 : decode cX11_shift 2 = .ok (.invokevirtual 133, 3) := by decide +kernel
theorem dX11_shift_5 : decode cX11_shift 5 = .ok (.ifCond .eq 30, 3) := by decide +kernel
theorem dX11_shift_8 : decode cX11_shift 8 = .ok (.aload_n 0, 1) := by decide +kernel
theorem dX11_shift_9 : decode cX11_shift 9 = .ok (.getfield 25, 3) := by decide +kernel
theorem dX11_shift_12 : decode cX11_shift 12 = .ok (.iload_n 1, 1) := by decide +kernel
theorem dX11_shift_13 : decode cX11_shift 13 = .ok (.baload, 1) := by decide +kernel
theorem dX11_shift_14 : decode cX11_shift 14 = .ok (.ifCond .ne 21, 3) := by decide +kernel
theorem dX11_shift_17 : decode cX11_shift 17 = .ok (.iload_n 2, 1) := by decide +kernel
theorem dX11_shift_18 : decode cX11_shift 18 = .ok (.ifCond .lt 13, 3) := by decide +kernel
theorem dX11_shift_21 : decode cX11_shift 21 = .ok (.iload_n 2, 1) := by decide +kernel
theorem dX11_shift_22 : decode cX11_shift 22 = .ok (.aload_n 0, 1) := by decide +kernel
theorem dX11_shift_23 : decode cX11_shift 23 = .ok (.getfield 41, 3) := by decide +kernel
theorem dX11_shift_26 : decode cX11_shift 26 = .ok (.iload_n 1, 1) := by decide +kernel
theorem dX11_shift_27 : decode cX11_shift 27 = .ok (.iaload, 1) := by decide +kernel
theorem dX11_shift_28 : decode cX11_shift 28 = .ok (.if_icmp .lt 7, 3) := by decide +kernel
theorem dX11_shift_31 : decode cX11_shift 31 = .ok (.iconst 1, 1) := by decide +kernel
theorem dX11_shift_32 : decode cX11_shift 32 = .ok (.goto 4, 3) := by decide +kernel
theorem dX11_shift_35 : decode cX11_shift 35 = .ok (.iconst 0, 1) := by decide +kernel
theorem dX11_shift_36 : decode cX11_shift 36 = .ok (.istore 6, 2) := by decide +kernel
theorem dX11_shift_38 : decode cX11_shift 38 = .ok (.aload_n 0, 1) := by decide +kernel
theorem dX11_shift_39 : decode cX11_shift 39 = .ok (.iload_n 1, 1) := by decide +kernel
theorem dX11_shift_40 : decode cX11_shift 40 = .ok (.invokevirtual 133, 3) := by decide +kernel
theorem dX11_shift_43 : decode cX11_shift 43 = .ok (.ifCond .eq 8, 3) := by decide +kernel
theorem dX11_shift_46 : decode cX11_shift 46 = .ok (.iload 6, 2) := by decide +kernel
theorem dX11_shift_48 : decode cX11_shift 48 = .ok (.ifCond .eq 7, 3) := by decide +kernel
theorem dX11_shift_51 : decode cX11_shift 51 = .ok (.iconst 1, 1) := by decide +kernel
theorem dX11_shift_52 : decode cX11_shift 52 = .ok (.goto 18, 3) := by decide +kernel
theorem dX11_shift_55 : decode cX11_shift 55 = .ok (.aload_n 0, 1) := by decide +kernel
theorem dX11_shift_56 : decode cX11_shift 56 = .ok (.getfield 22, 3) := by decide +kernel
theorem dX11_shift_59 : decode cX11_shift 59 = .ok (.iload_n 1, 1) := by decide +kernel
theorem dX11_shift_60 : decode cX11_shift 60 = .ok (.iaload, 1) := by decide +kernel
theorem dX11_shift_61 : decode cX11_shift 61 = .ok (.iconst 1, 1) := by decide +kernel
theorem dX11_shift_62 : decode cX11_shift 62 = .ok (.if_icmp .eq 7, 3) := by decide +kernel
theorem dX11_shift_65 : decode cX11_shift 65 = .ok (.iconst 2, 1) := by decide +kernel
theorem dX11_shift_66 : decode cX11_shift 66 = .ok (.goto 4, 3) := by decide +kernel
theorem dX11_shift_69 : decode cX11_shift 69 = .ok (.iconst 0, 1) := by decide +kernel
theorem dX11_shift_70 : decode cX11_shift 70 = .ok (.istore 7, 2) := by decide +kernel
theorem dX11_shift_72 : decode cX11_shift 72 = .ok (.iload_n 3, 1) := by decide +kernel
theorem dX11_shift_73 : decode cX11_shift 73 = .ok (.sipush (-200), 3) := by decide +kernel
theorem dX11_shift_76 : decode cX11_shift 76 = .ok (.if_icmp .lt 38, 3) := by decide +kernel
theorem dX11_shift_79 : decode cX11_shift 79 = .ok (.iload_n 3, 1) := by decide +kernel
theorem dX11_shift_80 : decode cX11_shift 80 = .ok (.sipush 200, 3) := by decide +kernel
theorem dX11_shift_83 : decode cX11_shift 83 = .ok (.if_icmp .gt 31, 3) := by decide +kernel
theorem dX11_shift_86 : decode cX11_shift 86 = .ok (.iload 4, 2) := by decide +kernel
theorem dX11_shift_88 : decode cX11_shift 88 = .ok (.sipush (-200), 3) := by decide +kernel
theorem dX11_shift_91 : decode cX11_shift 91 = .ok (.if_icmp .lt 23, 3) := by decide +kernel
theorem dX11_shift_94 : decode cX11_shift 94 = .ok (.iload 4, 2) := by decide +kernel
theorem dX11_shift_96 : decode cX11_shift 96 = .ok (.sipush 200, 3) := by decide +kernel
theorem dX11_shift_99 : decode cX11_shift 99 = .ok (.if_icmp .gt 15, 3) := by decide +kernel
theorem dX11_shift_102 : decode cX11_shift 102 = .ok (.iload 5, 2) := by decide +kernel
theorem dX11_shift_104 : decode cX11_shift 104 = .ok (.ifCond .lt 10, 3) := by decide +kernel
theorem dX11_shift_107 : decode cX11_shift 107 = .ok (.iload 5, 2) := by decide +kernel
theorem dX11_shift_109 : decode cX11_shift 109 = .ok (.bipush 20, 2) := by decide +kernel
theorem dX11_shift_111 : decode cX11_shift 111 = .ok (.if_icmp .le 7, 3) := by decide +kernel
theorem dX11_shift_114 : decode cX11_shift 114 = .ok (.iconst 1, 1) := by decide +kernel
theorem dX11_shift_115 : decode cX11_shift 115 = .ok (.goto 4, 3) := by decide +kernel
theorem dX11_shift_118 : decode cX11_shift 118 = .ok (.iconst 0, 1) := by decide +kernel
theorem dX11_shift_119 : decode cX11_shift 119 = .ok (.istore 8, 2) := by decide +kernel
theorem dX11_shift_121 : decode cX11_shift 121 = .ok (.iload 7, 2) := by decide +kernel
theorem dX11_shift_123 : decode cX11_shift 123 = .ok (.ifCond .le 8, 3) := by decide +kernel
theorem dX11_shift_126 : decode cX11_shift 126 = .ok (.iload 7, 2) := by decide +kernel
theorem dX11_shift_128 : decode cX11_shift 128 = .ok (.goto 26, 3) := by decide +kernel
theorem dX11_shift_131 : decode cX11_shift 131 = .ok (.iload 8, 2) := by decide +kernel
theorem dX11_shift_133 : decode cX11_shift 133 = .ok (.ifCond .eq 7, 3) := by decide +kernel
theorem dX11_shift_136 : decode cX11_shift 136 = .ok (.iconst 4, 1) := by decide +kernel
theorem dX11_shift_137 : decode cX11_shift 137 = .ok (.goto 17, 3) := by decide +kernel
theorem dX11_shift_140 : decode cX11_shift 140 = .ok (.aload_n 0, 1) := by decide +kernel
theorem dX11_shift_141 : decode cX11_shift 141 = .ok (.getfield 25, 3) := by decide +kernel
theorem dX11_shift_144 : decode cX11_shift 144 = .ok (.iload_n 1, 1) := by decide +kernel
theorem dX11_shift_145 : decode cX11_shift 145 = .ok (.baload, 1) := by decide +kernel
theorem dX11_shift_146 : decode cX11_shift 146 = .ok (.ifCond .eq 7, 3) := by decide +kernel
theorem dX11_shift_149 : decode cX11_shift 149 = .ok (.iconst 5, 1) := by decide +kernel
theorem dX11_shift_150 : decode cX11_shift 150 = .ok (.goto 4, 3) := by decide +kernel
theorem dX11_shift_153 : decode cX11_shift 153 = .ok (.iconst 0, 1) := by decide +kernel
theorem dX11_shift_154 : decode cX11_shift 154 = .ok (.istore 7, 2) := by decide +kernel
theorem dX11_shift_156 : decode cX11_shift 156 = .ok (.iload 7, 2) := by decide +kernel
theorem dX11_shift_158 : decode cX11_shift 158 = .ok (.ifCond .le 10, 3) := by decide +kernel
theorem dX11_shift_161 : decode cX11_shift 161 = .ok (.aload_n 0, 1) := by decide +kernel
theorem dX11_shift_162 : decode cX11_shift 162 = .ok (.iload 7, 2) := by decide +kernel
theorem dX11_shift_164 : decode cX11_shift 164 = .ok (.invokevirtual 276, 3) := by decide +kernel
theorem dX11_shift_167 : decode cX11_shift 167 = .ok (.ireturn, 1) := by decide +kernel
theorem dX11_shift_168 : decode cX11_shift 168 = .ok (.aload_n 0, 1) := by decide +kernel
theorem dX11_shift_169 : decode cX11_shift 169 = .ok (.iload_n 1, 1) := by decide +kernel
theorem dX11_shift_170 : decode cX11_shift 170 = .ok (.invokevirtual 285, 3) := by decide +kernel
theorem dX11_shift_173 : decode cX11_shift 173 = .ok (.aload_n 0, 1) := by decide +kernel
theorem dX11_shift_174 : decode cX11_shift 174 = .ok (.getfield 7, 3) := by decide +kernel
theorem dX11_shift_177 : decode cX11_shift 177 = .ok (.iload_n 1, 1) := by decide +kernel
theorem dX11_shift_178 : decode cX11_shift 178 = .ok (.iaload, 1) := by decide +kernel
theorem dX11_shift_179 : decode cX11_shift 179 = .ok (.ifCond .eq 14, 3) := by decide +kernel
theorem dX11_shift_182 : decode cX11_shift 182 = .ok (.aload_n 0, 1) := by decide +kernel
theorem dX11_shift_183 : decode cX11_shift 183 = .ok (.getfield 7, 3) := by decide +kernel
theorem dX11_shift_186 : decode cX11_shift 186 = .ok (.iload_n 1, 1) := by decide +kernel
theorem dX11_shift_187 : decode cX11_shift 187 = .ok (.iaload, 1) := by decide +kernel
theorem dX11_shift_188 : decode cX11_shift 188 = .ok (.bipush 6, 2) := by decide +kernel
theorem dX11_shift_190 : decode cX11_shift 190 = .ok (.if_icmp .ne 7, 3) := by decide +kernel
theorem dX11_shift_193 : decode cX11_shift 193 = .ok (.iconst 1, 1) := by decide +kernel
theorem dX11_shift_194 : decode cX11_shift 194 = .ok (.goto 4, 3) := by decide +kernel
theorem dX11_shift_197 : decode cX11_shift 197 = .ok (.iconst 0, 1) := by decide +kernel
theorem dX11_shift_198 : decode cX11_shift 198 = .ok (.istore 9, 2) := by decide +kernel
theorem dX11_shift_200 : decode cX11_shift 200 = .ok (.iconst 0, 1) := by decide +kernel
theorem dX11_shift_201 : decode cX11_shift 201 = .ok (.istore 10, 2) := by decide +kernel
theorem dX11_shift_203 : decode cX11_shift 203 = .ok (.iload 10, 2) := by decide +kernel
theorem dX11_shift_205 : decode cX11_shift 205 = .ok (.aload_n 0, 1) := by decide +kernel
theorem dX11_shift_206 : decode cX11_shift 206 = .ok (.getfield 191, 3) := by decide +kernel
theorem dX11_shift_209 : decode cX11_shift 209 = .ok (.if_icmp .ge 158, 3) := by decide +kernel
theorem dX11_shift_212 : decode cX11_shift 212 = .ok (.aload_n 0, 1) := by decide +kernel
theorem dX11_shift_213 : decode cX11_shift 213 = .ok (.iload_n 1, 1) := by decide +kernel
theorem dX11_shift_214 : decode cX11_shift 214 = .ok (.iload_n 2, 1) := by decide +kernel
theorem dX11_shift_215 : decode cX11_shift 215 = .ok (.iload 10, 2) := by decide +kernel
theorem dX11_shift_217 : decode cX11_shift 217 = .ok (.invokevirtual 343, 3) := by decide +kernel
theorem dX11_shift_220 : decode cX11_shift 220 = .ok (.istore 11, 2) := by decide +kernel
theorem dX11_shift_222 : decode cX11_shift 222 = .ok (.iload 9, 2) := by decide +kernel
theorem dX11_shift_224 : decode cX11_shift 224 = .ok (.ifCond .ne 38, 3) := by decide +kernel
theorem dX11_shift_227 : decode cX11_shift 227 = .ok (.iload 11, 2) := by decide +kernel
theorem dX11_shift_229 : decode cX11_shift 229 = .ok (.iload 5, 2) := by decide +kernel
theorem dX11_shift_231 : decode cX11_shift 231 = .ok (.if_icmp .gt 27, 3) := by decide +kernel
theorem dX11_shift_234 : decode cX11_shift 234 = .ok (.aload_n 0, 1) := by decide +kernel
theorem dX11_shift_235 : decode cX11_shift 235 = .ok (.iload_n 1, 1) := by decide +kernel
theorem dX11_shift_236 : decode cX11_shift 236 = .ok (.invokevirtual 161, 3) := by decide +kernel
theorem dX11_shift_239 : decode cX11_shift 239 = .ok (.ifCond .ne 23, 3) := by decide +kernel
theorem dX11_shift_242 : decode cX11_shift 242 = .ok (.iload 10, 2) := by decide +kernel
theorem dX11_shift_244 : decode cX11_shift 244 = .ok (.ifCond .eq 14, 3) := by decide +kernel
theorem dX11_shift_247 : decode cX11_shift 247 = .ok (.iload 10, 2) := by decide +kernel
theorem dX11_shift_249 : decode cX11_shift 249 = .ok (.aload_n 0, 1) := by decide +kernel
theorem dX11_shift_250 : decode cX11_shift 250 = .ok (.getfield 191, 3) := by decide +kernel
theorem dX11_shift_253 : decode cX11_shift 253 = .ok (.iconst 1, 1) := by decide +kernel
theorem dX11_shift_254 : decode cX11_shift 254 = .ok (.isub, 1) := by decide +kernel
theorem dX11_shift_255 : decode cX11_shift 255 = .ok (.if_icmp .ne 7, 3) := by decide +kernel
theorem dX11_shift_258 : decode cX11_shift 258 = .ok (.iconst 1, 1) := by decide +kernel
theorem dX11_shift_259 : decode cX11_shift 259 = .ok (.goto 4, 3) := by decide +kernel
theorem dX11_shift_262 : decode cX11_shift 262 = .ok (.iconst 0, 1) := by decide +kernel
theorem dX11_shift_263 : decode cX11_shift 263 = .ok (.istore 12, 2) := by decide +kernel
theorem dX11_shift_265 : decode cX11_shift 265 = .ok (.iload 12, 2) := by decide +kernel
theorem dX11_shift_267 : decode cX11_shift 267 = .ok (.ifCond .eq 6, 3) := by decide +kernel
theorem dX11_shift_270 : decode cX11_shift 270 = .ok (.goto 91, 3) := by decide +kernel
theorem dX11_shift_273 : decode cX11_shift 273 = .ok (.aload_n 0, 1) := by decide +kernel
theorem dX11_shift_274 : decode cX11_shift 274 = .ok (.getfield 44, 3) := by decide +kernel
theorem dX11_shift_277 : decode cX11_shift 277 = .ok (.bipush 40, 2) := by decide +kernel
theorem dX11_shift_279 : decode cX11_shift 279 = .ok (.iload_n 1, 1) := by decide +kernel
theorem dX11_shift_280 : decode cX11_shift 280 = .ok (.imul, 1) := by decide +kernel
theorem dX11_shift_281 : decode cX11_shift 281 = .ok (.iload 10, 2) := by decide +kernel
theorem dX11_shift_283 : decode cX11_shift 283 = .ok (.iadd, 1) := by decide +kernel
theorem dX11_shift_284 : decode cX11_shift 284 = .ok (.aload_n 0, 1) := by decide +kernel
theorem dX11_shift_285 : decode cX11_shift 285 = .ok (.getfield 86, 3) := by decide +kernel
theorem dX11_shift_288 : decode cX11_shift 288 = .ok (.iload 10, 2) := by decide +kernel
theorem dX11_shift_290 : decode cX11_shift 290 = .ok (.iaload, 1) := by decide +kernel
theorem dX11_shift_291 : decode cX11_shift 291 = .ok (.iload 9, 2) := by decide +kernel
theorem dX11_shift_293 : decode cX11_shift 293 = .ok (.ifCond .eq 7, 3) := by decide +kernel
theorem dX11_shift_296 : decode cX11_shift 296 = .ok (.iload_n 3, 1) := by decide +kernel
theorem dX11_shift_297 : decode cX11_shift 297 = .ok (.goto 17, 3) := by decide +kernel
theorem dX11_shift_300 : decode cX11_shift 300 = .ok (.iload_n 3, 1) := by decide +kernel
theorem dX11_shift_301 : decode cX11_shift 301 = .ok (.iload 5, 2) := by decide +kernel
theorem dX11_shift_303 : decode cX11_shift 303 = .ok (.iconst 1, 1) := by decide +kernel
theorem dX11_shift_304 : decode cX11_shift 304 = .ok (.iadd, 1) := by decide +kernel
theorem dX11_shift_305 : decode cX11_shift 305 = .ok (.iload 11, 2) := by decide +kernel
theorem dX11_shift_307 : decode cX11_shift 307 = .ok (.isub, 1) := by decide +kernel
theorem dX11_shift_308 : decode cX11_shift 308 = .ok (.imul, 1) := by decide +kernel
theorem dX11_shift_309 : decode cX11_shift 309 = .ok (.iload 5, 2) := by decide +kernel
theorem dX11_shift_311 : decode cX11_shift 311 = .ok (.iconst 1, 1) := by decide +kernel
theorem dX11_shift_312 : decode cX11_shift 312 = .ok (.iadd, 1) := by decide +kernel
theorem dX11_shift_313 : decode cX11_shift 313 = .ok (.idiv, 1) := by decide +kernel
theorem dX11_shift_314 : decode cX11_shift 314 = .ok (.iadd, 1) := by decide +kernel
theorem dX11_shift_315 : decode cX11_shift 315 = .ok (.iastore, 1) := by decide +kernel
theorem dX11_shift_316 : decode cX11_shift 316 = .ok (.aload_n 0, 1) := by decide +kernel
theorem dX11_shift_317 : decode cX11_shift 317 = .ok (.getfield 47, 3) := by decide +kernel
theorem dX11_shift_320 : decode cX11_shift 320 = .ok (.bipush 40, 2) := by decide +kernel
theorem dX11_shift_322 : decode cX11_shift 322 = .ok (.iload_n 1, 1) := by decide +kernel
theorem dX11_shift_323 : decode cX11_shift 323 = .ok (.imul, 1) := by decide +kernel
theorem dX11_shift_324 : decode cX11_shift 324 = .ok (.iload 10, 2) := by decide +kernel
theorem dX11_shift_326 : decode cX11_shift 326 = .ok (.iadd, 1) := by decide +kernel
theorem dX11_shift_327 : decode cX11_shift 327 = .ok (.aload_n 0, 1) := by decide +kernel
theorem dX11_shift_328 : decode cX11_shift 328 = .ok (.getfield 89, 3) := by decide +kernel
theorem dX11_shift_331 : decode cX11_shift 331 = .ok (.iload 10, 2) := by decide +kernel
theorem dX11_shift_333 : decode cX11_shift 333 = .ok (.iaload, 1) := by decide +kernel
theorem dX11_shift_334 : decode cX11_shift 334 = .ok (.iload 9, 2) := by decide +kernel
theorem dX11_shift_336 : decode cX11_shift 336 = .ok (.ifCond .eq 8, 3) := by decide +kernel
theorem dX11_shift_339 : decode cX11_shift 339 = .ok (.iload 4, 2) := by decide +kernel
theorem dX11_shift_341 : decode cX11_shift 341 = .ok (.goto 18, 3) := by decide +kernel
theorem dX11_shift_344 : decode cX11_shift 344 = .ok (.iload 4, 2) := by decide +kernel
theorem dX11_shift_346 : decode cX11_shift 346 = .ok (.iload 5, 2) := by decide +kernel
theorem dX11_shift_348 : decode cX11_shift 348 = .ok (.iconst 1, 1) := by decide +kernel
theorem dX11_shift_349 : decode cX11_shift 349 = .ok (.iadd, 1) := by decide +kernel
theorem dX11_shift_350 : decode cX11_shift 350 = .ok (.iload 11, 2) := by decide +kernel
theorem dX11_shift_352 : decode cX11_shift 352 = .ok (.isub, 1) := by decide +kernel
theorem dX11_shift_353 : decode cX11_shift 353 = .ok (.imul, 1) := by decide +kernel
theorem dX11_shift_354 : decode cX11_shift 354 = .ok (.iload 5, 2) := by decide +kernel
theorem dX11_shift_356 : decode cX11_shift 356 = .ok (.iconst 1, 1) := by decide +kernel
theorem dX11_shift_357 : decode cX11_shift 357 = .ok (.iadd, 1) := by decide +kernel
theorem dX11_shift_358 : decode cX11_shift 358 = .ok (.idiv, 1) := by decide +kernel
theorem dX11_shift_359 : decode cX11_shift 359 = .ok (.iadd, 1) := by decide +kernel
theorem dX11_shift_360 : decode cX11_shift 360 = .ok (.iastore, 1) := by decide +kernel
theorem dX11_shift_361 : decode cX11_shift 361 = .ok (.iinc 10 1, 3) := by decide +kernel
theorem dX11_shift_364 : decode cX11_shift 364 = .ok (.goto (-161), 3) := by decide +kernel
theorem dX11_shift_367 : decode cX11_shift 367 = .ok (.aload_n 0, 1) := by decide +kernel
theorem dX11_shift_368 : decode cX11_shift 368 = .ok (.iload_n 1, 1) := by decide +kernel
theorem dX11_shift_369 : decode cX11_shift 369 = .ok (.invokevirtual 337, 3) := by decide +kernel
theorem dX11_shift_372 : decode cX11_shift 372 = .ok (.ifCond .ne 10, 3) := by decide +kernel
theorem dX11_shift_375 : decode cX11_shift 375 = .ok (.aload_n 0, 1) := by decide +kernel
theorem dX11_shift_376 : decode cX11_shift 376 = .ok (.bipush 8, 2) := by decide +kernel
theorem dX11_shift_378 : decode cX11_shift 378 = .ok (.invokevirtual 276, 3) := by decide +kernel
theorem dX11_shift_381 : decode cX11_shift 381 = .ok (.ireturn, 1) := by decide +kernel
theorem dX11_shift_382 : decode cX11_shift 382 = .ok (.aload_n 0, 1) := by decide +kernel
theorem dX11_shift_383 : decode cX11_shift 383 = .ok (.iload_n 1, 1) := by decide +kernel
theorem dX11_shift_384 : decode cX11_shift 384 = .ok (.iconst 3, 1) := by decide +kernel
theorem dX11_shift_385 : decode cX11_shift 385 = .ok (.invokevirtual 340, 3) := by decide +kernel
theorem dX11_shift_388 : decode cX11_shift 388 = .ok (.ireturn, 1) := by decide +kernel
theorem dX11_grow_0 : decode cX11_grow 0 = .ok (.aload_n 0, 1) := by decide +kernel
theorem dX11_grow_1 : decode cX11_grow 1 = .ok (.iload_n 1, 1) := by decide +kernel
theorem dX11_grow_2 : decode cX11_grow 2 = .ok (.invokevirtual 312, 3) := by decide +kernel
theorem dX11_grow_5 : decode cX11_grow 5 = .ok (.istore_n 2, 1) := by decide +kernel
theorem dX11_grow_6 : decode cX11_grow 6 = .ok (.iload_n 2, 1) := by decide +kernel
theorem dX11_grow_7 : decode cX11_grow 7 = .ok (.ifCond .le 7, 3) := by decide +kernel
theorem dX11_grow_10 : decode cX11_grow 10 = .ok (.iload_n 2, 1) := by decide +kernel
theorem dX11_grow_11 : decode cX11_grow 11 = .ok (.goto 32, 3) := by decide +kernel
theorem dX11_grow_14 : decode cX11_grow 14 = .ok (.aload_n 0, 1) := by decide +kernel
theorem dX11_grow_15 : decode cX11_grow 15 = .ok (.getfield 7, 3) := by decide +kernel
theorem dX11_grow_18 : decode cX11_grow 18 = .ok (.iload_n 1, 1) := by decide +kernel
theorem dX11_grow_19 : decode cX11_grow 19 = .ok (.iaload, 1) := by decide +kernel
theorem dX11_grow_20 : decode cX11_grow 20 = .ok (.bipush 6, 2) := by decide +kernel
theorem dX11_grow_22 : decode cX11_grow 22 = .ok (.if_icmp .eq 7, 3) := by decide +kernel
theorem dX11_grow_25 : decode cX11_grow 25 = .ok (.iconst 3, 1) := by decide +kernel
theorem dX11_grow_26 : decode cX11_grow 26 = .ok (.goto 17, 3) := by decide +kernel
theorem dX11_grow_29 : decode cX11_grow 29 = .ok (.aload_n 0, 1) := by decide +kernel
theorem dX11_grow_30 : decode cX11_grow 30 = .ok (.getfield 25, 3) := by decide +kernel
theorem dX11_grow_33 : decode cX11_grow 33 = .ok (.iload_n 1, 1) := by decide +kernel
theorem dX11_grow_34 : decode cX11_grow 34 = .ok (.baload, 1) := by decide +kernel
theorem dX11_grow_35 : decode cX11_grow 35 = .ok (.ifCond .eq 7, 3) := by decide +kernel
theorem dX11_grow_38 : decode cX11_grow 38 = .ok (.iconst 5, 1) := by decide +kernel
theorem dX11_grow_39 : decode cX11_grow 39 = .ok (.goto 4, 3) := by decide +kernel
theorem dX11_grow_42 : decode cX11_grow 42 = .ok (.iconst 0, 1) := by decide +kernel
theorem dX11_grow_43 : decode cX11_grow 43 = .ok (.istore_n 2, 1) := by decide +kernel
theorem dX11_grow_44 : decode cX11_grow 44 = .ok (.iload_n 2, 1) := by decide +kernel
theorem dX11_grow_45 : decode cX11_grow 45 = .ok (.ifCond .le 9, 3) := by decide +kernel
theorem dX11_grow_48 : decode cX11_grow 48 = .ok (.aload_n 0, 1) := by decide +kernel
theorem dX11_grow_49 : decode cX11_grow 49 = .ok (.iload_n 2, 1) := by decide +kernel
theorem dX11_grow_50 : decode cX11_grow 50 = .ok (.invokevirtual 276, 3) := by decide +kernel
theorem dX11_grow_53 : decode cX11_grow 53 = .ok (.ireturn, 1) := by decide +kernel
theorem dX11_grow_54 : decode cX11_grow 54 = .ok (.aload_n 0, 1) := by decide +kernel
theorem dX11_grow_55 : decode cX11_grow 55 = .ok (.iload_n 1, 1) := by decide +kernel
theorem dX11_grow_56 : decode cX11_grow 56 = .ok (.invokevirtual 285, 3) := by decide +kernel
theorem dX11_grow_59 : decode cX11_grow 59 = .ok (.iconst 0, 1) := by decide +kernel
theorem dX11_grow_60 : decode cX11_grow 60 = .ok (.istore_n 3, 1) := by decide +kernel
theorem dX11_grow_61 : decode cX11_grow 61 = .ok (.iload_n 3, 1) := by decide +kernel
theorem dX11_grow_62 : decode cX11_grow 62 = .ok (.aload_n 0, 1) := by decide +kernel
theorem dX11_grow_63 : decode cX11_grow 63 = .ok (.getfield 191, 3) := by decide +kernel
theorem dX11_grow_66 : decode cX11_grow 66 = .ok (.if_icmp .ge 61, 3) := by decide +kernel
theorem dX11_grow_69 : decode cX11_grow 69 = .ok (.aload_n 0, 1) := by decide +kernel
theorem dX11_grow_70 : decode cX11_grow 70 = .ok (.getfield 44, 3) := by decide +kernel
theorem dX11_grow_73 : decode cX11_grow 73 = .ok (.bipush 40, 2) := by decide +kernel
theorem dX11_grow_75 : decode cX11_grow 75 = .ok (.iload_n 1, 1) := by decide +kernel
theorem dX11_grow_76 : decode cX11_grow 76 = .ok (.imul, 1) := by decide +kernel
theorem dX11_grow_77 : decode cX11_grow 77 = .ok (.iload_n 3, 1) := by decide +kernel
theorem dX11_grow_78 : decode cX11_grow 78 = .ok (.iadd, 1) := by decide +kernel
theorem dX11_grow_79 : decode cX11_grow 79 = .ok (.iconst 2, 1) := by decide +kernel
theorem dX11_grow_80 : decode cX11_grow 80 = .ok (.aload_n 0, 1) := by decide +kernel
theorem dX11_grow_81 : decode cX11_grow 81 = .ok (.getfield 86, 3) := by decide +kernel
theorem dX11_grow_84 : decode cX11_grow 84 = .ok (.iload_n 3, 1) := by decide +kernel
theorem dX11_grow_85 : decode cX11_grow 85 = .ok (.iaload, 1) := by decide +kernel
theorem dX11_grow_86 : decode cX11_grow 86 = .ok (.imul, 1) := by decide +kernel
theorem dX11_grow_87 : decode cX11_grow 87 = .ok (.aload_n 0, 1) := by decide +kernel
theorem dX11_grow_88 : decode cX11_grow 88 = .ok (.getfield 86, 3) := by decide +kernel
theorem dX11_grow_91 : decode cX11_grow 91 = .ok (.iconst 0, 1) := by decide +kernel
theorem dX11_grow_92 : decode cX11_grow 92 = .ok (.iaload, 1) := by decide +kernel
theorem dX11_grow_93 : decode cX11_grow 93 = .ok (.isub, 1) := by decide +kernel
theorem dX11_grow_94 : decode cX11_grow 94 = .ok (.iastore, 1) := by decide +kernel
theorem dX11_grow_95 : decode cX11_grow 95 = .ok (.aload_n 0, 1) := by decide +kernel
theorem dX11_grow_96 : decode cX11_grow 96 = .ok (.getfield 47, 3) := by decide +kernel
theorem dX11_grow_99 : decode cX11_grow 99 = .ok (.bipush 40, 2) := by decide +kernel
theorem dX11_grow_101 : decode cX11_grow 101 = .ok (.iload_n 1, 1) := by decide +kernel
theorem dX11_grow_102 : decode cX11_grow 102 = .ok (.imul, 1) := by decide +kernel
theorem dX11_grow_103 : decode cX11_grow 103 = .ok (.iload_n 3, 1) := by decide +kernel
theorem dX11_grow_104 : decode cX11_grow 104 = .ok (.iadd, 1) := by decide +kernel
theorem dX11_grow_105 : decode cX11_grow 105 = .ok (.iconst 2, 1) := by decide +kernel
theorem dX11_grow_106 : decode cX11_grow 106 = .ok (.aload_n 0, 1) := by decide +kernel
theorem dX11_grow_107 : decode cX11_grow 107 = .ok (.getfield 89, 3) := by decide +kernel
theorem dX11_grow_110 : decode cX11_grow 110 = .ok (.iload_n 3, 1) := by decide +kernel
theorem dX11_grow_111 : decode cX11_grow 111 = .ok (.iaload, 1) := by decide +kernel
theorem dX11_grow_112 : decode cX11_grow 112 = .ok (.imul, 1) := by decide +kernel
theorem dX11_grow_113 : decode cX11_grow 113 = .ok (.aload_n 0, 1) := by decide +kernel
theorem dX11_grow_114 : decode cX11_grow 114 = .ok (.getfield 89, 3) := by decide +kernel
theorem dX11_grow_117 : decode cX11_grow 117 = .ok (.iconst 0, 1) := by decide +kernel
theorem dX11_grow_118 : decode cX11_grow 118 = .ok (.iaload, 1) := by decide +kernel
theorem dX11_grow_119 : decode cX11_grow 119 = .ok (.isub, 1) := by decide +kernel
theorem dX11_grow_120 : decode cX11_grow 120 = .ok (.iastore, 1) := by decide +kernel
theorem dX11_grow_121 : decode cX11_grow 121 = .ok (.iinc 3 1, 3) := by decide +kernel
theorem dX11_grow_124 : decode cX11_grow 124 = .ok (.goto (-63), 3) := by decide +kernel
theorem dX11_grow_127 : decode cX11_grow 127 = .ok (.aload_n 0, 1) := by decide +kernel
theorem dX11_grow_128 : decode cX11_grow 128 = .ok (.iload_n 1, 1) := by decide +kernel
theorem dX11_grow_129 : decode cX11_grow 129 = .ok (.iconst 4, 1) := by decide +kernel
theorem dX11_grow_130 : decode cX11_grow 130 = .ok (.invokevirtual 340, 3) := by decide +kernel
theorem dX11_grow_133 : decode cX11_grow 133 = .ok (.ireturn, 1) := by decide +kernel
theorem dX11_box_0 : decode cX11_box 0 = .ok (.iconst 0, 1) := by decide +kernel
theorem dX11_box_1 : decode cX11_box 1 = .ok (.istore_n 3, 1) := by decide +kernel
theorem dX11_box_2 : decode cX11_box 2 = .ok (.iload_n 3, 1) := by decide +kernel
theorem dX11_box_3 : decode cX11_box 3 = .ok (.aload_n 0, 1) := by decide +kernel
theorem dX11_box_4 : decode cX11_box 4 = .ok (.getfield 41, 3) := by decide +kernel
theorem dX11_box_7 : decode cX11_box 7 = .ok (.iload_n 1, 1) := by decide +kernel
theorem dX11_box_8 : decode cX11_box 8 = .ok (.iaload, 1) := by decide +kernel
theorem dX11_box_9 : decode cX11_box 9 = .ok (.if_icmp .ge 142, 3) := by decide +kernel
theorem dX11_box_12 : decode cX11_box 12 = .ok (.aload_n 0, 1) := by decide +kernel
theorem dX11_box_13 : decode cX11_box 13 = .ok (.getfield 44, 3) := by decide +kernel
theorem dX11_box_16 : decode cX11_box 16 = .ok (.bipush 40, 2) := by decide +kernel
theorem dX11_box_18 : decode cX11_box 18 = .ok (.iload_n 1, 1) := by decide +kernel
theorem dX11_box_19 : decode cX11_box 19 = .ok (.imul, 1) := by decide +kernel
theorem dX11_box_20 : decode cX11_box 20 = .ok (.iload_n 3, 1) := by decide +kernel
theorem dX11_box_21 : decode cX11_box 21 = .ok (.iadd, 1) := by decide +kernel
theorem dX11_box_22 : decode cX11_box 22 = .ok (.iaload, 1) := by decide +kernel
theorem dX11_box_23 : decode cX11_box 23 = .ok (.istore 4, 2) := by decide +kernel
theorem dX11_box_25 : decode cX11_box 25 = .ok (.aload_n 0, 1) := by decide +kernel
theorem dX11_box_26 : decode cX11_box 26 = .ok (.getfield 47, 3) := by decide +kernel
theorem dX11_box_29 : decode cX11_box 29 = .ok (.bipush 40, 2) := by decide +kernel
theorem dX11_box_31 : decode cX11_box 31 = .ok (.iload_n 1, 1) := by decide +kernel
theorem dX11_box_32 : decode cX11_box 32 = .ok (.imul, 1) := by decide +kernel
theorem dX11_box_33 : decode cX11_box 33 = .ok (.iload_n 3, 1) := by decide +kernel
theorem dX11_box_34 : decode cX11_box 34 = .ok (.iadd, 1) := by decide +kernel
theorem dX11_box_35 : decode cX11_box 35 = .ok (.iaload, 1) := by decide +kernel
theorem dX11_box_36 : decode cX11_box 36 = .ok (.istore 5, 2) := by decide +kernel
theorem dX11_box_38 : decode cX11_box 38 = .ok (.iload_n 2, 1) := by decide +kernel
theorem dX11_box_39 : decode cX11_box 39 = .ok (.ifCond .eq 11, 3) := by decide +kernel
theorem dX11_box_42 : decode cX11_box 42 = .ok (.iload_n 3, 1) := by decide +kernel
theorem dX11_box_43 : decode cX11_box 43 = .ok (.ifCond .ne 7, 3) := by decide +kernel
theorem dX11_box_46 : decode cX11_box 46 = .ok (.iconst 1, 1) := by decide +kernel
theorem dX11_box_47 : decode cX11_box 47 = .ok (.goto 4, 3) := by decide +kernel
theorem dX11_box_50 : decode cX11_box 50 = .ok (.iconst 0, 1) := by decide +kernel
theorem dX11_box_51 : decode cX11_box 51 = .ok (.istore 6, 2) := by decide +kernel
theorem dX11_box_53 : decode cX11_box 53 = .ok (.aload_n 0, 1) := by decide +kernel
theorem dX11_box_54 : decode cX11_box 54 = .ok (.iload 6, 2) := by decide +kernel
theorem dX11_box_56 : decode cX11_box 56 = .ok (.ifCond .eq 8, 3) := by decide +kernel
theorem dX11_box_59 : decode cX11_box 59 = .ok (.iload 4, 2) := by decide +kernel
theorem dX11_box_61 : decode cX11_box 61 = .ok (.goto 12, 3) := by decide +kernel
theorem dX11_box_64 : decode cX11_box 64 = .ok (.aload_n 0, 1) := by decide +kernel
theorem dX11_box_65 : decode cX11_box 65 = .ok (.getfield 346, 3) := by decide +kernel
theorem dX11_box_68 : decode cX11_box 68 = .ok (.iload 4, 2) := by decide +kernel
theorem dX11_box_70 : decode cX11_box 70 = .ok (.invokestatic 144, 3) := by decide +kernel
theorem dX11_box_73 : decode cX11_box 73 = .ok (.putfield 346, 3) := by decide +kernel
theorem dX11_box_76 : decode cX11_box 76 = .ok (.aload_n 0, 1) := by decide +kernel
theorem dX11_box_77 : decode cX11_box 77 = .ok (.iload 6, 2) := by decide +kernel
theorem dX11_box_79 : decode cX11_box 79 = .ok (.ifCond .eq 8, 3) := by decide +kernel
theorem dX11_box_82 : decode cX11_box 82 = .ok (.iload 5, 2) := by decide +kernel
theorem dX11_box_84 : decode cX11_box 84 = .ok (.goto 12, 3) := by decide +kernel
theorem dX11_box_87 : decode cX11_box 87 = .ok (.aload_n 0, 1) := by decide +kernel
theorem dX11_box_88 : decode cX11_box 88 = .ok (.getfield 349, 3) := by decide +kernel
theorem dX11_box_91 : decode cX11_box 91 = .ok (.iload 5, 2) := by decide +kernel
theorem dX11_box_93 : decode cX11_box 93 = .ok (.invokestatic 144, 3) := by decide +kernel
theorem dX11_box_96 : decode cX11_box 96 = .ok (.putfield 349, 3) := by decide +kernel
theorem dX11_box_99 : decode cX11_box 99 = .ok (.aload_n 0, 1) := by decide +kernel
theorem dX11_box_100 : decode cX11_box 100 = .ok (.iload 6, 2) := by decide +kernel
theorem dX11_box_102 : decode cX11_box 102 = .ok (.ifCond .eq 8, 3) := by decide +kernel
theorem dX11_box_105 : decode cX11_box 105 = .ok (.iload 4, 2) := by decide +kernel
theorem dX11_box_107 : decode cX11_box 107 = .ok (.goto 12, 3) := by decide +kernel
theorem dX11_box_110 : decode cX11_box 110 = .ok (.aload_n 0, 1) := by decide +kernel
theorem dX11_box_111 : decode cX11_box 111 = .ok (.getfield 352, 3) := by decide +kernel
theorem dX11_box_114 : decode cX11_box 114 = .ok (.iload 4, 2) := by decide +kernel
theorem dX11_box_116 : decode cX11_box 116 = .ok (.invokestatic 150, 3) := by decide +kernel
theorem dX11_box_119 : decode cX11_box 119 = .ok (.putfield 352, 3) := by decide +kernel
theorem dX11_box_122 : decode cX11_box 122 = .ok (.aload_n 0, 1) := by decide +kernel
theorem dX11_box_123 : decode cX11_box 123 = .ok (.iload 6, 2) := by decide +kernel
theorem dX11_box_125 : decode cX11_box 125 = .ok (.ifCond .eq 8, 3) := by decide +kernel
theorem dX11_box_128 : decode cX11_box 128 = .ok (.iload 5, 2) := by decide +kernel
theorem dX11_box_130 : decode cX11_box 130 = .ok (.goto 12, 3) := by decide +kernel
theorem dX11_box_133 : decode cX11_box 133 = .ok (.aload_n 0, 1) := by decide +kernel
theorem dX11_box_134 : decode cX11_box 134 = .ok (.getfield 355, 3) := by decide +kernel
theorem dX11_box_137 : decode cX11_box 137 = .ok (.iload 5, 2) := by decide +kernel
theorem dX11_box_139 : decode cX11_box 139 = .ok (.invokestatic 150, 3) := by decide +kernel
theorem dX11_box_142 : decode cX11_box 142 = .ok (.putfield 355, 3) := by decide +kernel
theorem dX11_box_145 : decode cX11_box 145 = .ok (.iinc 3 1, 3) := by decide +kernel
theorem dX11_box_148 : decode cX11_box 148 = .ok (.goto (-146), 3) := by decide +kernel
theorem dX11_box_151 : decode cX11_box 151 = .ok (.return_, 1) := by decide +kernel
theorem dX11_layBox_0 : decode cX11_layBox 0 = .ok (.aload_n 0, 1) := by decide +kernel
theorem dX11_layBox_1 : decode cX11_layBox 1 = .ok (.getfield 41, 3) := by decide +kernel
theorem dX11_layBox_4 : decode cX11_layBox 4 = .ok (.iload_n 1, 1) := by decide +kernel
theorem dX11_layBox_5 : decode cX11_layBox 5 = .ok (.iconst 4, 1) := by decide +kernel
theorem dX11_layBox_6 : decode cX11_layBox 6 = .ok (.iastore, 1) := by decide +kernel
theorem dX11_layBox_7 : decode cX11_layBox 7 = .ok (.iconst 0, 1) := by decide +kernel
theorem dX11_layBox_8 : decode cX11_layBox 8 = .ok (.istore_n 2, 1) := by decide +kernel
theorem dX11_layBox_9 : decode cX11_layBox 9 = .ok (.iload_n 2, 1) := by decide +kernel
theorem dX11_layBox_10 : decode cX11_layBox 10 = .ok (.iconst 4, 1) := by decide +kernel
theorem dX11_layBox_11 : decode cX11_layBox 11 = .ok (.if_icmp .ge 68, 3) := by decide +kernel
theorem dX11_layBox_14 : decode cX11_layBox 14 = .ok (.aload_n 0, 1) := by decide +kernel
theorem dX11_layBox_15 : decode cX11_layBox 15 = .ok (.getfield 44, 3) := by decide +kernel
theorem dX11_layBox_18 : decode cX11_layBox 18 = .ok (.bipush 40, 2) := by decide +kernel
theorem dX11_layBox_20 : decode cX11_layBox 20 = .ok (.iload_n 1, 1) := by decide +kernel
theorem dX11_layBox_21 : decode cX11_layBox 21 = .ok (.imul, 1) := by decide +kernel
theorem dX11_layBox_22 : decode cX11_layBox 22 = .ok (.iload_n 2, 1) := by decide +kernel
theorem dX11_layBox_23 : decode cX11_layBox 23 = .ok (.iadd, 1) := by decide +kernel
theorem dX11_layBox_24 : decode cX11_layBox 24 = .ok (.iload_n 2, 1) := by decide +kernel
theorem dX11_layBox_25 : decode cX11_layBox 25 = .ok (.iconst 1, 1) := by decide +kernel
theorem dX11_layBox_26 : decode cX11_layBox 26 = .ok (.if_icmp .eq 8, 3) := by decide +kernel
theorem dX11_layBox_29 : decode cX11_layBox 29 = .ok (.iload_n 2, 1) := by decide +kernel
theorem dX11_layBox_30 : decode cX11_layBox 30 = .ok (.iconst 2, 1) := by decide +kernel
theorem dX11_layBox_31 : decode cX11_layBox 31 = .ok (.if_icmp .ne 10, 3) := by decide +kernel
theorem dX11_layBox_34 : decode cX11_layBox 34 = .ok (.aload_n 0, 1) := by decide +kernel
theorem dX11_layBox_35 : decode cX11_layBox 35 = .ok (.getfield 352, 3) := by decide +kernel
theorem dX11_layBox_38 : decode cX11_layBox 38 = .ok (.goto 7, 3) := by decide +kernel
theorem dX11_layBox_41 : decode cX11_layBox 41 = .ok (.aload_n 0, 1) := by decide +kernel
theorem dX11_layBox_42 : decode cX11_layBox 42 = .ok (.getfield 346, 3) := by decide +kernel
theorem dX11_layBox_45 : decode cX11_layBox 45 = .ok (.iastore, 1) := by decide +kernel
theorem dX11_layBox_46 : decode cX11_layBox 46 = .ok (.aload_n 0, 1) := by decide +kernel
theorem dX11_layBox_47 : decode cX11_layBox 47 = .ok (.getfield 47, 3) := by decide +kernel
theorem dX11_layBox_50 : decode cX11_layBox 50 = .ok (.bipush 40, 2) := by decide +kernel
theorem dX11_layBox_52 : decode cX11_layBox 52 = .ok (.iload_n 1, 1) := by decide +kernel
theorem dX11_layBox_53 : decode cX11_layBox 53 = .ok (.imul, 1) := by decide +kernel
theorem dX11_layBox_54 : decode cX11_layBox 54 = .ok (.iload_n 2, 1) := by decide +kernel
theorem dX11_layBox_55 : decode cX11_layBox 55 = .ok (.iadd, 1) := by decide +kernel
theorem dX11_layBox_56 : decode cX11_layBox 56 = .ok (.iload_n 2, 1) := by decide +kernel
theorem dX11_layBox_57 : decode cX11_layBox 57 = .ok (.iconst 1, 1) := by decide +kernel
theorem dX11_layBox_58 : decode cX11_layBox 58 = .ok (.if_icmp .le 10, 3) := by decide +kernel
theorem dX11_layBox_61 : decode cX11_layBox 61 = .ok (.aload_n 0, 1) := by decide +kernel
theorem dX11_layBox_62 : decode cX11_layBox 62 = .ok (.getfield 355, 3) := by decide +kernel
theorem dX11_layBox_65 : decode cX11_layBox 65 = .ok (.goto 7, 3) := by decide +kernel
theorem dX11_layBox_68 : decode cX11_layBox 68 = .ok (.aload_n 0, 1) := by decide +kernel
theorem dX11_layBox_69 : decode cX11_layBox 69 = .ok (.getfield 349, 3) := by decide +kernel
theorem dX11_layBox_72 : decode cX11_layBox 72 = .ok (.iastore, 1) := by decide +kernel
theorem dX11_layBox_73 : decode cX11_layBox 73 = .ok (.iinc 2 1, 3) := by decide +kernel
theorem dX11_layBox_76 : decode cX11_layBox 76 = .ok (.goto (-67), 3) := by decide +kernel
theorem dX11_layBox_79 : decode cX11_layBox 79 = .ok (.aload_n 0, 1) := by decide +kernel
theorem dX11_layBox_80 : decode cX11_layBox 80 = .ok (.getfield 7, 3) := by decide +kernel
theorem dX11_layBox_83 : decode cX11_layBox 83 = .ok (.iload_n 1, 1) := by decide +kernel
theorem dX11_layBox_84 : decode cX11_layBox 84 = .ok (.bipush 6, 2) := by decide +kernel
theorem dX11_layBox_86 : decode cX11_layBox 86 = .ok (.iastore, 1) := by decide +kernel
theorem dX11_layBox_87 : decode cX11_layBox 87 = .ok (.return_, 1) := by decide +kernel
theorem dX11_square_0 : decode cX11_square 0 = .ok (.aload_n 0, 1) := by decide +kernel
theorem dX11_square_1 : decode cX11_square 1 = .ok (.iload_n 1, 1) := by decide +kernel
theorem dX11_square_2 : decode cX11_square 2 = .ok (.invokevirtual 312, 3) := by decide +kernel
theorem dX11_square_5 : decode cX11_square 5 = .ok (.istore_n 3, 1) := by decide +kernel
theorem dX11_square_6 : decode cX11_square 6 = .ok (.iload_n 3, 1) := by decide +kernel
theorem dX11_square_7 : decode cX11_square 7 = .ok (.ifCond .le 7, 3) := by decide +kernel
theorem dX11_square_10 : decode cX11_square 10 = .ok (.iload_n 3, 1) := by decide +kernel
theorem dX11_square_11 : decode cX11_square 11 = .ok (.goto 26, 3) := by decide +kernel
theorem dX11_square_14 : decode cX11_square 14 = .ok (.aload_n 0, 1) := by decide +kernel
theorem dX11_square_15 : decode cX11_square 15 = .ok (.getfield 7, 3) := by decide +kernel
theorem dX11_square_18 : decode cX11_square 18 = .ok (.iload_n 1, 1) := by decide +kernel
theorem dX11_square_19 : decode cX11_square 19 = .ok (.iaload, 1) := by decide +kernel
theorem dX11_square_20 : decode cX11_square 20 = .ok (.iconst 5, 1) := by decide +kernel
theorem dX11_square_21 : decode cX11_square 21 = .ok (.if_icmp .eq 7, 3) := by decide +kernel
theorem dX11_square_24 : decode cX11_square 24 = .ok (.iconst 3, 1) := by decide +kernel
theorem dX11_square_25 : decode cX11_square 25 = .ok (.goto 12, 3) := by decide +kernel
theorem dX11_square_28 : decode cX11_square 28 = .ok (.iload_n 2, 1) := by decide +kernel
theorem dX11_square_29 : decode cX11_square 29 = .ok (.ifCond .ge 7, 3) := by decide +kernel
theorem dX11_square_32 : decode cX11_square 32 = .ok (.iconst 4, 1) := by decide +kernel
theorem dX11_square_33 : decode cX11_square 33 = .ok (.goto 4, 3) := by decide +kernel
theorem dX11_square_36 : decode cX11_square 36 = .ok (.iconst 0, 1) := by decide +kernel
theorem dX11_square_37 : decode cX11_square 37 = .ok (.istore_n 3, 1) := by decide +kernel
theorem dX11_square_38 : decode cX11_square 38 = .ok (.iload_n 3, 1) := by decide +kernel
theorem dX11_square_39 : decode cX11_square 39 = .ok (.ifCond .le 9, 3) := by decide +kernel
theorem dX11_square_42 : decode cX11_square 42 = .ok (.aload_n 0, 1) := by decide +kernel
theorem dX11_square_43 : decode cX11_square 43 = .ok (.iload_n 3, 1) := by decide +kernel
theorem dX11_square_44 : decode cX11_square 44 = .ok (.invokevirtual 276, 3) := by decide +kernel
theorem dX11_square_47 : decode cX11_square 47 = .ok (.ireturn, 1) := by decide +kernel
theorem dX11_square_48 : decode cX11_square 48 = .ok (.aload_n 0, 1) := by decide +kernel
theorem dX11_square_49 : decode cX11_square 49 = .ok (.getfield 25, 3) := by decide +kernel
theorem dX11_square_52 : decode cX11_square 52 = .ok (.iload_n 1, 1) := by decide +kernel
theorem dX11_square_53 : decode cX11_square 53 = .ok (.baload, 1) := by decide +kernel
theorem dX11_square_54 : decode cX11_square 54 = .ok (.ifCond .eq 9, 3) := by decide +kernel
theorem dX11_square_57 : decode cX11_square 57 = .ok (.aload_n 0, 1) := by decide +kernel
theorem dX11_square_58 : decode cX11_square 58 = .ok (.iconst 5, 1) := by decide +kernel
theorem dX11_square_59 : decode cX11_square 59 = .ok (.invokevirtual 276, 3) := by decide +kernel
theorem dX11_square_62 : decode cX11_square 62 = .ok (.ireturn, 1) := by decide +kernel
theorem dX11_square_63 : decode cX11_square 63 = .ok (.aload_n 0, 1) := by decide +kernel
theorem dX11_square_64 : decode cX11_square 64 = .ok (.iload_n 1, 1) := by decide +kernel
theorem dX11_square_65 : decode cX11_square 65 = .ok (.iconst 1, 1) := by decide +kernel
theorem dX11_square_66 : decode cX11_square 66 = .ok (.invokevirtual 358, 3) := by decide +kernel
theorem dX11_square_69 : decode cX11_square 69 = .ok (.ldc2_w 362, 3) := by decide +kernel
theorem dX11_square_72 : decode cX11_square 72 = .ok (.aload_n 0, 1) := by decide +kernel
theorem dX11_square_73 : decode cX11_square 73 = .ok (.getfield 352, 3) := by decide +kernel
theorem dX11_square_76 : decode cX11_square 76 = .ok (.aload_n 0, 1) := by decide +kernel
theorem dX11_square_77 : decode cX11_square 77 = .ok (.getfield 346, 3) := by decide +kernel
theorem dX11_square_80 : decode cX11_square 80 = .ok (.isub, 1) := by decide +kernel
theorem dX11_square_81 : decode cX11_square 81 = .ok (.i2l, 1) := by decide +kernel
theorem dX11_square_82 : decode cX11_square 82 = .ok (.lmul, 1) := by decide +kernel
theorem dX11_square_83 : decode cX11_square 83 = .ok (.aload_n 0, 1) := by decide +kernel
theorem dX11_square_84 : decode cX11_square 84 = .ok (.getfield 355, 3) := by decide +kernel
theorem dX11_square_87 : decode cX11_square 87 = .ok (.aload_n 0, 1) := by decide +kernel
theorem dX11_square_88 : decode cX11_square 88 = .ok (.getfield 349, 3) := by decide +kernel
theorem dX11_square_91 : decode cX11_square 91 = .ok (.isub, 1) := by decide +kernel
theorem dX11_square_92 : decode cX11_square 92 = .ok (.i2l, 1) := by decide +kernel
theorem dX11_square_93 : decode cX11_square 93 = .ok (.lmul, 1) := by decide +kernel
theorem dX11_square_94 : decode cX11_square 94 = .ok (.aload_n 0, 1) := by decide +kernel
theorem dX11_square_95 : decode cX11_square 95 = .ok (.iload_n 1, 1) := by decide +kernel
theorem dX11_square_96 : decode cX11_square 96 = .ok (.invokevirtual 364, 3) := by decide +kernel
theorem dX11_square_99 : decode cX11_square 99 = .ok (.lsub, 1) := by decide +kernel
theorem dX11_square_100 : decode cX11_square 100 = .ok (.lstore 4, 2) := by decide +kernel
theorem dX11_square_102 : decode cX11_square 102 = .ok (.lload 4, 2) := by decide +kernel
theorem dX11_square_104 : decode cX11_square 104 = .ok (.iload_n 2, 1) := by decide +kernel
theorem dX11_square_105 : decode cX11_square 105 = .ok (.i2l, 1) := by decide +kernel
theorem dX11_square_106 : decode cX11_square 106 = .ok (.lcmp, 1) := by decide +kernel
theorem dX11_square_107 : decode cX11_square 107 = .ok (.ifCond .le 9, 3) := by decide +kernel
theorem dX11_square_110 : decode cX11_square 110 = .ok (.aload_n 0, 1) := by decide +kernel
theorem dX11_square_111 : decode cX11_square 111 = .ok (.iconst 4, 1) := by decide +kernel
theorem dX11_square_112 : decode cX11_square 112 = .ok (.invokevirtual 276, 3) := by decide +kernel
theorem dX11_square_115 : decode cX11_square 115 = .ok (.ireturn, 1) := by decide +kernel
theorem dX11_square_116 : decode cX11_square 116 = .ok (.aload_n 0, 1) := by decide +kernel
theorem dX11_square_117 : decode cX11_square 117 = .ok (.iload_n 1, 1) := by decide +kernel
theorem dX11_square_118 : decode cX11_square 118 = .ok (.invokevirtual 285, 3) := by decide +kernel
theorem dX11_square_121 : decode cX11_square 121 = .ok (.aload_n 0, 1) := by decide +kernel
theorem dX11_square_122 : decode cX11_square 122 = .ok (.iload_n 1, 1) := by decide +kernel
theorem dX11_square_123 : decode cX11_square 123 = .ok (.invokevirtual 368, 3) := by decide +kernel
theorem dX11_square_126 : decode cX11_square 126 = .ok (.aload_n 0, 1) := by decide +kernel
theorem dX11_square_127 : decode cX11_square 127 = .ok (.iload_n 1, 1) := by decide +kernel
theorem dX11_square_128 : decode cX11_square 128 = .ok (.iconst 5, 1) := by decide +kernel
theorem dX11_square_129 : decode cX11_square 129 = .ok (.invokevirtual 340, 3) := by decide +kernel
theorem dX11_square_132 : decode cX11_square 132 = .ok (.ireturn, 1) := by decide +kernel
theorem dX11_isLess_0 : decode cX11_isLess 0 = .ok (.lload_n 1, 1) := by decide +kernel
theorem dX11_isLess_1 : decode cX11_isLess 1 = .ok (.lload 7, 2) := by decide +kernel
theorem dX11_isLess_3 : decode cX11_isLess 3 = .ok (.lmul, 1) := by decide +kernel
theorem dX11_isLess_4 : decode cX11_isLess 4 = .ok (.lload 5, 2) := by decide +kernel
theorem dX11_isLess_6 : decode cX11_isLess 6 = .ok (.lload_n 3, 1) := by decide +kernel
theorem dX11_isLess_7 : decode cX11_isLess 7 = .ok (.lmul, 1) := by decide +kernel
theorem dX11_isLess_8 : decode cX11_isLess 8 = .ok (.lcmp, 1) := by decide +kernel
theorem dX11_isLess_9 : decode cX11_isLess 9 = .ok (.ifCond .ge 7, 3) := by decide +kernel
theorem dX11_isLess_12 : decode cX11_isLess 12 = .ok (.iconst 1, 1) := by decide +kernel
theorem dX11_isLess_13 : decode cX11_isLess 13 = .ok (.goto 4, 3) := by decide +kernel
theorem dX11_isLess_16 : decode cX11_isLess 16 = .ok (.iconst 0, 1) := by decide +kernel
theorem dX11_isLess_17 : decode cX11_isLess 17 = .ok (.ireturn, 1) := by decide +kernel
theorem dX11_nearer_0 : decode cX11_nearer 0 = .ok (.aload_n 1, 1) := by decide +kernel
theorem dX11_nearer_1 : decode cX11_nearer 1 = .ok (.iload 4, 2) := by decide +kernel
theorem dX11_nearer_3 : decode cX11_nearer 3 = .ok (.iconst 2, 1) := by decide +kernel
theorem dX11_nearer_4 : decode cX11_nearer 4 = .ok (.iadd, 1) := by decide +kernel
theorem dX11_nearer_5 : decode cX11_nearer 5 = .ok (.iaload, 1) := by decide +kernel
theorem dX11_nearer_6 : decode cX11_nearer 6 = .ok (.aload_n 1, 1) := by decide +kernel
theorem dX11_nearer_7 : decode cX11_nearer 7 = .ok (.iload 4, 2) := by decide +kernel
theorem dX11_nearer_9 : decode cX11_nearer 9 = .ok (.iaload, 1) := by decide +kernel
theorem dX11_nearer_10 : decode cX11_nearer 10 = .ok (.isub, 1) := by decide +kernel
theorem dX11_nearer_11 : decode cX11_nearer 11 = .ok (.i2l, 1) := by decide +kernel
theorem dX11_nearer_12 : decode cX11_nearer 12 = .ok (.lstore 5, 2) := by decide +kernel
theorem dX11_nearer_14 : decode cX11_nearer 14 = .ok (.aload_n 1, 1) := by decide +kernel
theorem dX11_nearer_15 : decode cX11_nearer 15 = .ok (.iload 4, 2) := by decide +kernel
theorem dX11_nearer_17 : decode cX11_nearer 17 = .ok (.iconst 3, 1) := by decide +kernel
theorem dX11_nearer_18 : decode cX11_nearer 18 = .ok (.iadd, 1) := by decide +kernel
theorem dX11_nearer_19 : decode cX11_nearer 19 = .ok (.iaload, 1) := by decide +kernel
theorem dX11_nearer_20 : decode cX11_nearer 20 = .ok (.aload_n 1, 1) := by decide +kernel
theorem dX11_nearer_21 : decode cX11_nearer 21 = .ok (.iload 4, 2) := by decide +kernel
theorem dX11_nearer_23 : decode cX11_nearer 23 = .ok (.iconst 1, 1) := by decide +kernel
theorem dX11_nearer_24 : decode cX11_nearer 24 = .ok (.iadd, 1) := by decide +kernel
theorem dX11_nearer_25 : decode cX11_nearer 25 = .ok (.iaload, 1) := by decide +kernel
theorem dX11_nearer_26 : decode cX11_nearer 26 = .ok (.isub, 1) := by decide +kernel
theorem dX11_nearer_27 : decode cX11_nearer 27 = .ok (.i2l, 1) := by decide +kernel
theorem dX11_nearer_28 : decode cX11_nearer 28 = .ok (.lstore 7, 2) := by decide +kernel
theorem dX11_nearer_30 : decode cX11_nearer 30 = .ok (.iload_n 2, 1) := by decide +kernel
theorem dX11_nearer_31 : decode cX11_nearer 31 = .ok (.aload_n 1, 1) := by decide +kernel
theorem dX11_nearer_32 : decode cX11_nearer 32 = .ok (.iload 4, 2) := by decide +kernel
theorem dX11_nearer_34 : decode cX11_nearer 34 = .ok (.iaload, 1) := by decide +kernel
theorem dX11_nearer_35 : decode cX11_nearer 35 = .ok (.isub, 1) := by decide +kernel
theorem dX11_nearer_36 : decode cX11_nearer 36 = .ok (.i2l, 1) := by decide +kernel
theorem dX11_nearer_37 : decode cX11_nearer 37 = .ok (.lstore 9, 2) := by decide +kernel
theorem dX11_nearer_39 : decode cX11_nearer 39 = .ok (.iload_n 3, 1) := by decide +kernel
theorem dX11_nearer_40 : decode cX11_nearer 40 = .ok (.aload_n 1, 1) := by decide +kernel
theorem dX11_nearer_41 : decode cX11_nearer 41 = .ok (.iload 4, 2) := by decide +kernel
theorem dX11_nearer_43 : decode cX11_nearer 43 = .ok (.iconst 1, 1) := by decide +kernel
theorem dX11_nearer_44 : decode cX11_nearer 44 = .ok (.iadd, 1) := by decide +kernel
theorem dX11_nearer_45 : decode cX11_nearer 45 = .ok (.iaload, 1) := by decide +kernel
theorem dX11_nearer_46 : decode cX11_nearer 46 = .ok (.isub, 1) := by decide +kernel
theorem dX11_nearer_47 : decode cX11_nearer 47 = .ok (.i2l, 1) := by decide +kernel
theorem dX11_nearer_48 : decode cX11_nearer 48 = .ok (.lstore 11, 2) := by decide +kernel
theorem dX11_nearer_50 : decode cX11_nearer 50 = .ok (.lload 5, 2) := by decide +kernel
theorem dX11_nearer_52 : decode cX11_nearer 52 = .ok (.lload 5, 2) := by decide +kernel
theorem dX11_nearer_54 : decode cX11_nearer 54 = .ok (.lmul, 1) := by decide +kernel
theorem dX11_nearer_55 : decode cX11_nearer 55 = .ok (.lload 7, 2) := by decide +kernel
theorem dX11_nearer_57 : decode cX11_nearer 57 = .ok (.lload 7, 2) := by decide +kernel
theorem dX11_nearer_59 : decode cX11_nearer 59 = .ok (.lmul, 1) := by decide +kernel
theorem dX11_nearer_60 : decode cX11_nearer 60 = .ok (.ladd, 1) := by decide +kernel
theorem dX11_nearer_61 : decode cX11_nearer 61 = .ok (.lstore 13, 2) := by decide +kernel
theorem dX11_nearer_63 : decode cX11_nearer 63 = .ok (.lload 5, 2) := by decide +kernel
theorem dX11_nearer_65 : decode cX11_nearer 65 = .ok (.lload 9, 2) := by decide +kernel
theorem dX11_nearer_67 : decode cX11_nearer 67 = .ok (.lmul, 1) := by decide +kernel
theorem dX11_nearer_68 : decode cX11_nearer 68 = .ok (.lload 7, 2) := by decide +kernel
theorem dX11_nearer_70 : decode cX11_nearer 70 = .ok (.lload 11, 2) := by decide +kernel
theorem dX11_nearer_72 : decode cX11_nearer 72 = .ok (.lmul, 1) := by decide +kernel
theorem dX11_nearer_73 : decode cX11_nearer 73 = .ok (.ladd, 1) := by decide +kernel
theorem dX11_nearer_74 : decode cX11_nearer 74 = .ok (.lstore 15, 2) := by decide +kernel
theorem dX11_nearer_76 : decode cX11_nearer 76 = .ok (.lconst 1, 1) := by decide +kernel
theorem dX11_nearer_77 : decode cX11_nearer 77 = .ok (.lstore 19, 2) := by decide +kernel
theorem dX11_nearer_79 : decode cX11_nearer 79 = .ok (.lload 13, 2) := by decide +kernel
theorem dX11_nearer_81 : decode cX11_nearer 81 = .ok (.lconst 0, 1) := by decide +kernel
theorem dX11_nearer_82 : decode cX11_nearer 82 = .ok (.lcmp, 1) := by decide +kernel
theorem dX11_nearer_83 : decode cX11_nearer 83 = .ok (.ifCond .eq 10, 3) := by decide +kernel
theorem dX11_nearer_86 : decode cX11_nearer 86 = .ok (.lload 15, 2) := by decide +kernel
theorem dX11_nearer_88 : decode cX11_nearer 88 = .ok (.lconst 0, 1) := by decide +kernel
theorem dX11_nearer_89 : decode cX11_nearer 89 = .ok (.lcmp, 1) := by decide +kernel
theorem dX11_nearer_90 : decode cX11_nearer 90 = .ok (.ifCond .gt 19, 3) := by decide +kernel
theorem dX11_nearer_93 : decode cX11_nearer 93 = .ok (.lload 9, 2) := by decide +kernel
theorem dX11_nearer_95 : decode cX11_nearer 95 = .ok (.lload 9, 2) := by decide +kernel
theorem dX11_nearer_97 : decode cX11_nearer 97 = .ok (.lmul, 1) := by decide +kernel
theorem dX11_nearer_98 : decode cX11_nearer 98 = .ok (.lload 11, 2) := by decide +kernel
theorem dX11_nearer_100 : decode cX11_nearer 100 = .ok (.lload 11, 2) := by decide +kernel
theorem dX11_nearer_102 : decode cX11_nearer 102 = .ok (.lmul, 1) := by decide +kernel
theorem dX11_nearer_103 : decode cX11_nearer 103 = .ok (.ladd, 1) := by decide +kernel
theorem dX11_nearer_104 : decode cX11_nearer 104 = .ok (.lstore 17, 2) := by decide +kernel
theorem dX11_nearer_106 : decode cX11_nearer 106 = .ok (.goto 63, 3) := by decide +kernel
theorem dX11_nearer_109 : decode cX11_nearer 109 = .ok (.lload 15, 2) := by decide +kernel
theorem dX11_nearer_111 : decode cX11_nearer 111 = .ok (.lload 13, 2) := by decide +kernel
theorem dX11_nearer_113 : decode cX11_nearer 113 = .ok (.lcmp, 1) := by decide +kernel
theorem dX11_nearer_114 : decode cX11_nearer 114 = .ok (.ifCond .lt 31, 3) := by decide +kernel
theorem dX11_nearer_117 : decode cX11_nearer 117 = .ok (.lload 9, 2) := by decide +kernel
theorem dX11_nearer_119 : decode cX11_nearer 119 = .ok (.lload 5, 2) := by decide +kernel
theorem dX11_nearer_121 : decode cX11_nearer 121 = .ok (.lsub, 1) := by decide +kernel
theorem dX11_nearer_122 : decode cX11_nearer 122 = .ok (.lload 9, 2) := by decide +kernel
theorem dX11_nearer_124 : decode cX11_nearer 124 = .ok (.lload 5, 2) := by decide +kernel
theorem dX11_nearer_126 : decode cX11_nearer 126 = .ok (.lsub, 1) := by decide +kernel
theorem dX11_nearer_127 : decode cX11_nearer 127 = .ok (.lmul, 1) := by decide +kernel
theorem dX11_nearer_128 : decode cX11_nearer 128 = .ok (.lload 11, 2) := by decide +kernel
theorem dX11_nearer_130 : decode cX11_nearer 130 = .ok (.lload 7, 2) := by decide +kernel
theorem dX11_nearer_132 : decode cX11_nearer 132 = .ok (.lsub, 1) := by decide +kernel
theorem dX11_nearer_133 : decode cX11_nearer 133 = .ok (.lload 11, 2) := by decide +kernel
theorem dX11_nearer_135 : decode cX11_nearer 135 = .ok (.lload 7, 2) := by decide +kernel
theorem dX11_nearer_137 : decode cX11_nearer 137 = .ok (.lsub, 1) := by decide +kernel
theorem dX11_nearer_138 : decode cX11_nearer 138 = .ok (.lmul, 1) := by decide +kernel
theorem dX11_nearer_139 : decode cX11_nearer 139 = .ok (.ladd, 1) := by decide +kernel
theorem dX11_nearer_140 : decode cX11_nearer 140 = .ok (.lstore 17, 2) := by decide +kernel
theorem dX11_nearer_142 : decode cX11_nearer 142 = .ok (.goto 27, 3) := by decide +kernel
theorem dX11_nearer_145 : decode cX11_nearer 145 = .ok (.lload 5, 2) := by decide +kernel
theorem dX11_nearer_147 : decode cX11_nearer 147 = .ok (.lload 11, 2) := by decide +kernel
theorem dX11_nearer_149 : decode cX11_nearer 149 = .ok (.lmul, 1) := by decide +kernel
theorem dX11_nearer_150 : decode cX11_nearer 150 = .ok (.lload 7, 2) := by decide +kernel
theorem dX11_nearer_152 : decode cX11_nearer 152 = .ok (.lload 9, 2) := by decide +kernel
theorem dX11_nearer_154 : decode cX11_nearer 154 = .ok (.lmul, 1) := by decide +kernel
theorem dX11_nearer_155 : decode cX11_nearer 155 = .ok (.lsub, 1) := by decide +kernel
theorem dX11_nearer_156 : decode cX11_nearer 156 = .ok (.lstore 21, 2) := by decide +kernel
theorem dX11_nearer_158 : decode cX11_nearer 158 = .ok (.lload 21, 2) := by decide +kernel
theorem dX11_nearer_160 : decode cX11_nearer 160 = .ok (.lload 21, 2) := by decide +kernel
theorem dX11_nearer_162 : decode cX11_nearer 162 = .ok (.lmul, 1) := by decide +kernel
theorem dX11_nearer_163 : decode cX11_nearer 163 = .ok (.lstore 17, 2) := by decide +kernel
theorem dX11_nearer_165 : decode cX11_nearer 165 = .ok (.lload 13, 2) := by decide +kernel
theorem dX11_nearer_167 : decode cX11_nearer 167 = .ok (.lstore 19, 2) := by decide +kernel
theorem dX11_nearer_169 : decode cX11_nearer 169 = .ok (.aload_n 0, 1) := by decide +kernel
theorem dX11_nearer_170 : decode cX11_nearer 170 = .ok (.getfield 371, 3) := by decide +kernel
theorem dX11_nearer_173 : decode cX11_nearer 173 = .ok (.lconst 0, 1) := by decide +kernel
theorem dX11_nearer_174 : decode cX11_nearer 174 = .ok (.lcmp, 1) := by decide +kernel
theorem dX11_nearer_175 : decode cX11_nearer 175 = .ok (.ifCond .eq 22, 3) := by decide +kernel
theorem dX11_nearer_178 : decode cX11_nearer 178 = .ok (.aload_n 0, 1) := by decide +kernel
theorem dX11_nearer_179 : decode cX11_nearer 179 = .ok (.lload 17, 2) := by decide +kernel
theorem dX11_nearer_181 : decode cX11_nearer 181 = .ok (.lload 19, 2) := by decide +kernel
theorem dX11_nearer_183 : decode cX11_nearer 183 = .ok (.aload_n 0, 1) := by decide +kernel
theorem dX11_nearer_184 : decode cX11_nearer 184 = .ok (.getfield 375, 3) := by decide +kernel
theorem dX11_nearer_187 : decode cX11_nearer 187 = .ok (.aload_n 0, 1) := by decide +kernel
theorem dX11_nearer_188 : decode cX11_nearer 188 = .ok (.getfield 371, 3) := by decide +kernel
theorem dX11_nearer_191 : decode cX11_nearer 191 = .ok (.invokevirtual 378, 3) := by decide +kernel
theorem dX11_nearer_194 : decode cX11_nearer 194 = .ok (.ifCond .eq 15, 3) := by decide +kernel
theorem dX11_nearer_197 : decode cX11_nearer 197 = .ok (.aload_n 0, 1) := by decide +kernel
theorem dX11_nearer_198 : decode cX11_nearer 198 = .ok (.lload 17, 2) := by decide +kernel
theorem dX11_nearer_200 : decode cX11_nearer 200 = .ok (.putfield 375, 3) := by decide +kernel
theorem dX11_nearer_203 : decode cX11_nearer 203 = .ok (.aload_n 0, 1) := by decide +kernel
theorem dX11_nearer_204 : decode cX11_nearer 204 = .ok (.lload 19, 2) := by decide +kernel
theorem dX11_nearer_206 : decode cX11_nearer 206 = .ok (.putfield 371, 3) := by decide +kernel
theorem dX11_nearer_209 : decode cX11_nearer 209 = .ok (.return_, 1) := by decide +kernel
theorem dX11_plainFraction_0 : decode cX11_plainFraction 0 = .ok (.aload_n 0, 1) := by decide +kernel
theorem dX11_plainFraction_1 : decode cX11_plainFraction 1 = .ok (.getfield 375, 3) := by decide +kernel
theorem dX11_plainFraction_4 : decode cX11_plainFraction 4 = .ok (.lstore_n 1, 1) := by decide +kernel
theorem dX11_plainFraction_5 : decode cX11_plainFraction 5 = .ok (.aload_n 0, 1) := by decide +kernel
theorem dX11_plainFraction_6 : decode cX11_plainFraction 6 = .ok (.getfield 371, 3) := by decide +kernel
theorem dX11_plainFraction_9 : decode cX11_plainFraction 9 = .ok (.lstore_n 3, 1) := by decide +kernel
theorem dX11_plainFraction_10 : decode cX11_plainFraction 10 = .ok (.lload_n 1, 1) := by decide +kernel
theorem dX11_plainFraction_11 : decode cX11_plainFraction 11 = .ok (.lconst 0, 1) := by decide +kernel
theorem dX11_plainFraction_12 : decode cX11_plainFraction 12 = .ok (.lcmp, 1) := by decide +kernel
theorem dX11_plainFraction_13 : decode cX11_plainFraction 13 = .ok (.ifCond .eq 16, 3) := by decide +kernel
theorem dX11_plainFraction_16 : decode cX11_plainFraction 16 = .ok (.lload_n 3, 1) := by decide +kernel
theorem dX11_plainFraction_17 : decode cX11_plainFraction 17 = .ok (.lload_n 1, 1) := by decide +kernel
theorem dX11_plainFraction_18 : decode cX11_plainFraction 18 = .ok (.lrem, 1) := by decide +kernel
theorem dX11_plainFraction_19 : decode cX11_plainFraction 19 = .ok (.lstore 5, 2) := by decide +kernel
theorem dX11_plainFraction_21 : decode cX11_plainFraction 21 = .ok (.lload_n 1, 1) := by decide +kernel
theorem dX11_plainFraction_22 : decode cX11_plainFraction 22 = .ok (.lstore_n 3, 1) := by decide +kernel
theorem dX11_plainFraction_23 : decode cX11_plainFraction 23 = .ok (.lload 5, 2) := by decide +kernel
theorem dX11_plainFraction_25 : decode cX11_plainFraction 25 = .ok (.lstore_n 1, 1) := by decide +kernel
theorem dX11_plainFraction_26 : decode cX11_plainFraction 26 = .ok (.goto (-16), 3) := by decide +kernel
theorem dX11_plainFraction_29 : decode cX11_plainFraction 29 = .ok (.aload_n 0, 1) := by decide +kernel
theorem dX11_plainFraction_30 : decode cX11_plainFraction 30 = .ok (.dup, 1) := by decide +kernel
theorem dX11_plainFraction_31 : decode cX11_plainFraction 31 = .ok (.getfield 375, 3) := by decide +kernel
theorem dX11_plainFraction_34 : decode cX11_plainFraction 34 = .ok (.lload_n 3, 1) := by decide +kernel
theorem dX11_plainFraction_35 : decode cX11_plainFraction 35 = .ok (.ldiv, 1) := by decide +kernel
theorem dX11_plainFraction_36 : decode cX11_plainFraction 36 = .ok (.putfield 375, 3) := by decide +kernel
theorem dX11_plainFraction_39 : decode cX11_plainFraction 39 = .ok (.aload_n 0, 1) := by decide +kernel
theorem dX11_plainFraction_40 : decode cX11_plainFraction 40 = .ok (.dup, 1) := by decide +kernel
theorem dX11_plainFraction_41 : decode cX11_plainFraction 41 = .ok (.getfield 371, 3) := by decide +kernel
theorem dX11_plainFraction_44 : decode cX11_plainFraction 44 = .ok (.lload_n 3, 1) := by decide +kernel
theorem dX11_plainFraction_45 : decode cX11_plainFraction 45 = .ok (.ldiv, 1) := by decide +kernel
theorem dX11_plainFraction_46 : decode cX11_plainFraction 46 = .ok (.putfield 371, 3) := by decide +kernel
theorem dX11_plainFraction_49 : decode cX11_plainFraction 49 = .ok (.return_, 1) := by decide +kernel
theorem dX11_distance_0 : decode cX11_distance 0 = .ok (.aload_n 0, 1) := by decide +kernel
theorem dX11_distance_1 : decode cX11_distance 1 = .ok (.lconst 0, 1) := by decide +kernel
theorem dX11_distance_2 : decode cX11_distance 2 = .ok (.putfield 375, 3) := by decide +kernel
theorem dX11_distance_5 : decode cX11_distance 5 = .ok (.aload_n 0, 1) := by decide +kernel
theorem dX11_distance_6 : decode cX11_distance 6 = .ok (.lconst 0, 1) := by decide +kernel
theorem dX11_distance_7 : decode cX11_distance 7 = .ok (.putfield 371, 3) := by decide +kernel
theorem dX11_distance_10 : decode cX11_distance 10 = .ok (.aload_n 0, 1) := by decide +kernel
theorem dX11_distance_11 : decode cX11_distance 11 = .ok (.iload_n 1, 1) := by decide +kernel
theorem dX11_distance_12 : decode cX11_distance 12 = .ok (.iload_n 2, 1) := by decide +kernel
theorem dX11_distance_13 : decode cX11_distance 13 = .ok (.invokevirtual 200, 3) := by decide +kernel
theorem dX11_distance_16 : decode cX11_distance 16 = .ok (.ifCond .eq 9, 3) := by decide +kernel
theorem dX11_distance_19 : decode cX11_distance 19 = .ok (.aload_n 0, 1) := by decide +kernel
theorem dX11_distance_20 : decode cX11_distance 20 = .ok (.lconst 1, 1) := by decide +kernel
theorem dX11_distance_21 : decode cX11_distance 21 = .ok (.putfield 371, 3) := by decide +kernel
theorem dX11_distance_24 : decode cX11_distance 24 = .ok (.return_, 1) := by decide +kernel
theorem dX11_distance_25 : decode cX11_distance 25 = .ok (.iconst 0, 1) := by decide +kernel
theorem dX11_distance_26 : decode cX11_distance 26 = .ok (.istore_n 3, 1) := by decide +kernel
theorem dX11_distance_27 : decode cX11_distance 27 = .ok (.iload_n 3, 1) := by decide +kernel
theorem dX11_distance_28 : decode cX11_distance 28 = .ok (.aload_n 0, 1) := by decide +kernel
theorem dX11_distance_29 : decode cX11_distance 29 = .ok (.iload_n 1, 1) := by decide +kernel
theorem dX11_distance_30 : decode cX11_distance 30 = .ok (.invokevirtual 164, 3) := by decide +kernel
theorem dX11_distance_33 : decode cX11_distance 33 = .ok (.if_icmp .ge 129, 3) := by decide +kernel
theorem dX11_distance_36 : decode cX11_distance 36 = .ok (.aload_n 0, 1) := by decide +kernel
theorem dX11_distance_37 : decode cX11_distance 37 = .ok (.iload_n 1, 1) := by decide +kernel
theorem dX11_distance_38 : decode cX11_distance 38 = .ok (.iload_n 3, 1) := by decide +kernel
theorem dX11_distance_39 : decode cX11_distance 39 = .ok (.iconst 0, 1) := by decide +kernel
theorem dX11_distance_40 : decode cX11_distance 40 = .ok (.invokevirtual 167, 3) := by decide +kernel
theorem dX11_distance_43 : decode cX11_distance 43 = .ok (.iconst 0, 1) := by decide +kernel
theorem dX11_distance_44 : decode cX11_distance 44 = .ok (.istore 4, 2) := by decide +kernel
theorem dX11_distance_46 : decode cX11_distance 46 = .ok (.iload 4, 2) := by decide +kernel
theorem dX11_distance_48 : decode cX11_distance 48 = .ok (.aload_n 0, 1) := by decide +kernel
theorem dX11_distance_49 : decode cX11_distance 49 = .ok (.iload_n 2, 1) := by decide +kernel
theorem dX11_distance_50 : decode cX11_distance 50 = .ok (.invokevirtual 164, 3) := by decide +kernel
theorem dX11_distance_53 : decode cX11_distance 53 = .ok (.if_icmp .ge 103, 3) := by decide +kernel
theorem dX11_distance_56 : decode cX11_distance 56 = .ok (.aload_n 0, 1) := by decide +kernel
theorem dX11_distance_57 : decode cX11_distance 57 = .ok (.iload_n 2, 1) := by decide +kernel
theorem dX11_distance_58 : decode cX11_distance 58 = .ok (.iload 4, 2) := by decide +kernel
theorem dX11_distance_60 : decode cX11_distance 60 = .ok (.iconst 4, 1) := by decide +kernel
theorem dX11_distance_61 : decode cX11_distance 61 = .ok (.invokevirtual 167, 3) := by decide +kernel
theorem dX11_distance_64 : decode cX11_distance 64 = .ok (.aload_n 0, 1) := by decide +kernel
theorem dX11_distance_65 : decode cX11_distance 65 = .ok (.aload_n 0, 1) := by decide +kernel
theorem dX11_distance_66 : decode cX11_distance 66 = .ok (.getfield 83, 3) := by decide +kernel
theorem dX11_distance_69 : decode cX11_distance 69 = .ok (.aload_n 0, 1) := by decide +kernel
theorem dX11_distance_70 : decode cX11_distance 70 = .ok (.getfield 83, 3) := by decide +kernel
theorem dX11_distance_73 : decode cX11_distance 73 = .ok (.iconst 4, 1) := by decide +kernel
theorem dX11_distance_74 : decode cX11_distance 74 = .ok (.iaload, 1) := by decide +kernel
theorem dX11_distance_75 : decode cX11_distance 75 = .ok (.aload_n 0, 1) := by decide +kernel
theorem dX11_distance_76 : decode cX11_distance 76 = .ok (.getfield 83, 3) := by decide +kernel
theorem dX11_distance_79 : decode cX11_distance 79 = .ok (.iconst 5, 1) := by decide +kernel
theorem dX11_distance_80 : decode cX11_distance 80 = .ok (.iaload, 1) := by decide +kernel
theorem dX11_distance_81 : decode cX11_distance 81 = .ok (.iconst 0, 1) := by decide +kernel
theorem dX11_distance_82 : decode cX11_distance 82 = .ok (.invokevirtual 382, 3) := by decide +kernel
theorem dX11_distance_85 : decode cX11_distance 85 = .ok (.aload_n 0, 1) := by decide +kernel
theorem dX11_distance_86 : decode cX11_distance 86 = .ok (.aload_n 0, 1) := by decide +kernel
theorem dX11_distance_87 : decode cX11_distance 87 = .ok (.getfield 83, 3) := by decide +kernel
theorem dX11_distance_90 : decode cX11_distance 90 = .ok (.aload_n 0, 1) := by decide +kernel
theorem dX11_distance_91 : decode cX11_distance 91 = .ok (.getfield 83, 3) := by decide +kernel
theorem dX11_distance_94 : decode cX11_distance 94 = .ok (.bipush 6, 2) := by decide +kernel
theorem dX11_distance_96 : decode cX11_distance 96 = .ok (.iaload, 1) := by decide +kernel
theorem dX11_distance_97 : decode cX11_distance 97 = .ok (.aload_n 0, 1) := by decide +kernel
theorem dX11_distance_98 : decode cX11_distance 98 = .ok (.getfield 83, 3) := by decide +kernel
theorem dX11_distance_101 : decode cX11_distance 101 = .ok (.bipush 7, 2) := by decide +kernel
theorem dX11_distance_103 : decode cX11_distance 103 = .ok (.iaload, 1) := by decide +kernel
theorem dX11_distance_104 : decode cX11_distance 104 = .ok (.iconst 0, 1) := by decide +kernel
theorem dX11_distance_105 : decode cX11_distance 105 = .ok (.invokevirtual 382, 3) := by decide +kernel
theorem dX11_distance_108 : decode cX11_distance 108 = .ok (.aload_n 0, 1) := by decide +kernel
theorem dX11_distance_109 : decode cX11_distance 109 = .ok (.aload_n 0, 1) := by decide +kernel
theorem dX11_distance_110 : decode cX11_distance 110 = .ok (.getfield 83, 3) := by decide +kernel
theorem dX11_distance_113 : decode cX11_distance 113 = .ok (.aload_n 0, 1) := by decide +kernel
theorem dX11_distance_114 : decode cX11_distance 114 = .ok (.getfield 83, 3) := by decide +kernel
theorem dX11_distance_117 : decode cX11_distance 117 = .ok (.iconst 0, 1) := by decide +kernel
theorem dX11_distance_118 : decode cX11_distance 118 = .ok (.iaload, 1) := by decide +kernel
theorem dX11_distance_119 : decode cX11_distance 119 = .ok (.aload_n 0, 1) := by decide +kernel
theorem dX11_distance_120 : decode cX11_distance 120 = .ok (.getfield 83, 3) := by decide +kernel
theorem dX11_distance_123 : decode cX11_distance 123 = .ok (.iconst 1, 1) := by decide +kernel
theorem dX11_distance_124 : decode cX11_distance 124 = .ok (.iaload, 1) := by decide +kernel
theorem dX11_distance_125 : decode cX11_distance 125 = .ok (.iconst 4, 1) := by decide +kernel
theorem dX11_distance_126 : decode cX11_distance 126 = .ok (.invokevirtual 382, 3) := by decide +kernel
theorem dX11_distance_129 : decode cX11_distance 129 = .ok (.aload_n 0, 1) := by decide +kernel
theorem dX11_distance_130 : decode cX11_distance 130 = .ok (.aload_n 0, 1) := by decide +kernel
theorem dX11_distance_131 : decode cX11_distance 131 = .ok (.getfield 83, 3) := by decide +kernel
theorem dX11_distance_134 : decode cX11_distance 134 = .ok (.aload_n 0, 1) := by decide +kernel
theorem dX11_distance_135 : decode cX11_distance 135 = .ok (.getfield 83, 3) := by decide +kernel
theorem dX11_distance_138 : decode cX11_distance 138 = .ok (.iconst 2, 1) := by decide +kernel
theorem dX11_distance_139 : decode cX11_distance 139 = .ok (.iaload, 1) := by decide +kernel
theorem dX11_distance_140 : decode cX11_distance 140 = .ok (.aload_n 0, 1) := by decide +kernel
theorem dX11_distance_141 : decode cX11_distance 141 = .ok (.getfield 83, 3) := by decide +kernel
theorem dX11_distance_144 : decode cX11_distance 144 = .ok (.iconst 3, 1) := by decide +kernel
theorem dX11_distance_145 : decode cX11_distance 145 = .ok (.iaload, 1) := by decide +kernel
theorem dX11_distance_146 : decode cX11_distance 146 = .ok (.iconst 4, 1) := by decide +kernel
theorem dX11_distance_147 : decode cX11_distance 147 = .ok (.invokevirtual 382, 3) := by decide +kernel
theorem dX11_distance_150 : decode cX11_distance 150 = .ok (.iinc 4 1, 3) := by decide +kernel
theorem dX11_distance_153 : decode cX11_distance 153 = .ok (.goto (-107), 3) := by decide +kernel
theorem dX11_distance_156 : decode cX11_distance 156 = .ok (.iinc 3 1, 3) := by decide +kernel
theorem dX11_distance_159 : decode cX11_distance 159 = .ok (.goto (-132), 3) := by decide +kernel
theorem dX11_distance_162 : decode cX11_distance 162 = .ok (.aload_n 0, 1) := by decide +kernel
theorem dX11_distance_163 : decode cX11_distance 163 = .ok (.invokevirtual 386, 3) := by decide +kernel
theorem dX11_distance_166 : decode cX11_distance 166 = .ok (.return_, 1) := by decide +kernel
theorem dX11_join_0 : decode cX11_join 0 = .ok (.aload_n 0, 1) := by decide +kernel
theorem dX11_join_1 : decode cX11_join 1 = .ok (.iload_n 1, 1) := by decide +kernel
theorem dX11_join_2 : decode cX11_join 2 = .ok (.invokevirtual 133, 3) := by decide +kernel
theorem dX11_join_5 : decode cX11_join 5 = .ok (.ifCond .eq 11, 3) := by decide +kernel
theorem dX11_join_8 : decode cX11_join 8 = .ok (.aload_n 0, 1) := by decide +kernel
theorem dX11_join_9 : decode cX11_join 9 = .ok (.iload_n 2, 1) := by decide +kernel
theorem dX11_join_10 : decode cX11_join 10 = .ok (.invokevirtual 133, 3) := by decide +kernel
theorem dX11_join_13 : decode cX11_join 13 = .ok (.ifCond .ne 7, 3) := by decide +kernel
theorem dX11_join_16 : decode cX11_join 16 = .ok (.iconst 1, 1) := by decide +kernel
theorem dX11_join_17 : decode cX11_join 17 = .ok (.goto 28, 3) := by decide +kernel
theorem dX11_join_20 : decode cX11_join 20 = .ok (.aload_n 0, 1) := by decide +kernel
theorem dX11_join_21 : decode cX11_join 21 = .ok (.getfield 22, 3) := by decide +kernel
theorem dX11_join_24 : decode cX11_join 24 = .ok (.iload_n 1, 1) := by decide +kernel
theorem dX11_join_25 : decode cX11_join 25 = .ok (.iaload, 1) := by decide +kernel
theorem dX11_join_26 : decode cX11_join 26 = .ok (.iconst 1, 1) := by decide +kernel
theorem dX11_join_27 : decode cX11_join 27 = .ok (.if_icmp .ne 13, 3) := by decide +kernel
theorem dX11_join_30 : decode cX11_join 30 = .ok (.aload_n 0, 1) := by decide +kernel
theorem dX11_join_31 : decode cX11_join 31 = .ok (.getfield 22, 3) := by decide +kernel
theorem dX11_join_34 : decode cX11_join 34 = .ok (.iload_n 2, 1) := by decide +kernel
theorem dX11_join_35 : decode cX11_join 35 = .ok (.iaload, 1) := by decide +kernel
theorem dX11_join_36 : decode cX11_join 36 = .ok (.iconst 1, 1) := by decide +kernel
theorem dX11_join_37 : decode cX11_join 37 = .ok (.if_icmp .eq 7, 3) := by decide +kernel
theorem dX11_join_40 : decode cX11_join 40 = .ok (.iconst 2, 1) := by decide +kernel
theorem dX11_join_41 : decode cX11_join 41 = .ok (.goto 4, 3) := by decide +kernel
theorem dX11_join_44 : decode cX11_join 44 = .ok (.iconst 0, 1) := by decide +kernel
theorem dX11_join_45 : decode cX11_join 45 = .ok (.istore 4, 2) := by decide +kernel
theorem dX11_join_47 : decode cX11_join 47 = .ok (.iload 4, 2) := by decide +kernel
theorem dX11_join_49 : decode cX11_join 49 = .ok (.ifCond .le 8, 3) := by decide +kernel
theorem dX11_join_52 : decode cX11_join 52 = .ok (.iload 4, 2) := by decide +kernel
theorem dX11_join_54 : decode cX11_join 54 = .ok (.goto 67, 3) := by decide +kernel
theorem dX11_join_57 : decode cX11_join 57 = .ok (.aload_n 0, 1) := by decide +kernel
theorem dX11_join_58 : decode cX11_join 58 = .ok (.getfield 7, 3) := by decide +kernel
theorem dX11_join_61 : decode cX11_join 61 = .ok (.iload_n 1, 1) := by decide +kernel
theorem dX11_join_62 : decode cX11_join 62 = .ok (.iaload, 1) := by decide +kernel
theorem dX11_join_63 : decode cX11_join 63 = .ok (.bipush 6, 2) := by decide +kernel
theorem dX11_join_65 : decode cX11_join 65 = .ok (.if_icmp .ne 14, 3) := by decide +kernel
theorem dX11_join_68 : decode cX11_join 68 = .ok (.aload_n 0, 1) := by decide +kernel
theorem dX11_join_69 : decode cX11_join 69 = .ok (.getfield 7, 3) := by decide +kernel
theorem dX11_join_72 : decode cX11_join 72 = .ok (.iload_n 2, 1) := by decide +kernel
theorem dX11_join_73 : decode cX11_join 73 = .ok (.iaload, 1) := by decide +kernel
theorem dX11_join_74 : decode cX11_join 74 = .ok (.bipush 6, 2) := by decide +kernel
theorem dX11_join_76 : decode cX11_join 76 = .ok (.if_icmp .eq 7, 3) := by decide +kernel
theorem dX11_join_79 : decode cX11_join 79 = .ok (.iconst 3, 1) := by decide +kernel
theorem dX11_join_80 : decode cX11_join 80 = .ok (.goto 41, 3) := by decide +kernel
theorem dX11_join_83 : decode cX11_join 83 = .ok (.iload_n 3, 1) := by decide +kernel
theorem dX11_join_84 : decode cX11_join 84 = .ok (.ifCond .lt 10, 3) := by decide +kernel
theorem dX11_join_87 : decode cX11_join 87 = .ok (.iload_n 3, 1) := by decide +kernel
theorem dX11_join_88 : decode cX11_join 88 = .ok (.sipush 1000, 3) := by decide +kernel
theorem dX11_join_91 : decode cX11_join 91 = .ok (.if_icmp .le 7, 3) := by decide +kernel
theorem dX11_join_94 : decode cX11_join 94 = .ok (.iconst 4, 1) := by decide +kernel
theorem dX11_join_95 : decode cX11_join 95 = .ok (.goto 26, 3) := by decide +kernel
theorem dX11_join_98 : decode cX11_join 98 = .ok (.aload_n 0, 1) := by decide +kernel
theorem dX11_join_99 : decode cX11_join 99 = .ok (.getfield 25, 3) := by decide +kernel
theorem dX11_join_102 : decode cX11_join 102 = .ok (.iload_n 1, 1) := by decide +kernel
theorem dX11_join_103 : decode cX11_join 103 = .ok (.baload, 1) := by decide +kernel
theorem dX11_join_104 : decode cX11_join 104 = .ok (.ifCond .ne 12, 3) := by decide +kernel
theorem dX11_join_107 : decode cX11_join 107 = .ok (.aload_n 0, 1) := by decide +kernel
theorem dX11_join_108 : decode cX11_join 108 = .ok (.getfield 25, 3) := by decide +kernel
theorem dX11_join_111 : decode cX11_join 111 = .ok (.iload_n 2, 1) := by decide +kernel
theorem dX11_join_112 : decode cX11_join 112 = .ok (.baload, 1) := by decide +kernel
theorem dX11_join_113 : decode cX11_join 113 = .ok (.ifCond .eq 7, 3) := by decide +kernel
theorem dX11_join_116 : decode cX11_join 116 = .ok (.iconst 5, 1) := by decide +kernel
theorem dX11_join_117 : decode cX11_join 117 = .ok (.goto 4, 3) := by decide +kernel
theorem dX11_join_120 : decode cX11_join 120 = .ok (.iconst 0, 1) := by decide +kernel
theorem dX11_join_121 : decode cX11_join 121 = .ok (.istore 4, 2) := by decide +kernel
theorem dX11_join_123 : decode cX11_join 123 = .ok (.iload 4, 2) := by decide +kernel
theorem dX11_join_125 : decode cX11_join 125 = .ok (.ifCond .le 10, 3) := by decide +kernel
theorem dX11_join_128 : decode cX11_join 128 = .ok (.aload_n 0, 1) := by decide +kernel
theorem dX11_join_129 : decode cX11_join 129 = .ok (.iload 4, 2) := by decide +kernel
theorem dX11_join_131 : decode cX11_join 131 = .ok (.invokevirtual 126, 3) := by decide +kernel
theorem dX11_join_134 : decode cX11_join 134 = .ok (.ireturn, 1) := by decide +kernel
theorem dX11_join_135 : decode cX11_join 135 = .ok (.aload_n 0, 1) := by decide +kernel
theorem dX11_join_136 : decode cX11_join 136 = .ok (.iload_n 1, 1) := by decide +kernel
theorem dX11_join_137 : decode cX11_join 137 = .ok (.iload_n 2, 1) := by decide +kernel
theorem dX11_join_138 : decode cX11_join 138 = .ok (.invokevirtual 389, 3) := by decide +kernel
theorem dX11_join_141 : decode cX11_join 141 = .ok (.aload_n 0, 1) := by decide +kernel
theorem dX11_join_142 : decode cX11_join 142 = .ok (.getfield 375, 3) := by decide +kernel
theorem dX11_join_145 : decode cX11_join 145 = .ok (.iload_n 3, 1) := by decide +kernel
theorem dX11_join_146 : decode cX11_join 146 = .ok (.i2l, 1) := by decide +kernel
theorem dX11_join_147 : decode cX11_join 147 = .ok (.iload_n 3, 1) := by decide +kernel
theorem dX11_join_148 : decode cX11_join 148 = .ok (.i2l, 1) := by decide +kernel
theorem dX11_join_149 : decode cX11_join 149 = .ok (.lmul, 1) := by decide +kernel
theorem dX11_join_150 : decode cX11_join 150 = .ok (.aload_n 0, 1) := by decide +kernel
theorem dX11_join_151 : decode cX11_join 151 = .ok (.getfield 371, 3) := by decide +kernel
theorem dX11_join_154 : decode cX11_join 154 = .ok (.lmul, 1) := by decide +kernel
theorem dX11_join_155 : decode cX11_join 155 = .ok (.lcmp, 1) := by decide +kernel
theorem dX11_join_156 : decode cX11_join 156 = .ok (.ifCond .le 9, 3) := by decide +kernel
theorem dX11_join_159 : decode cX11_join 159 = .ok (.aload_n 0, 1) := by decide +kernel
theorem dX11_join_160 : decode cX11_join 160 = .ok (.iconst 4, 1) := by decide +kernel
theorem dX11_join_161 : decode cX11_join 161 = .ok (.invokevirtual 126, 3) := by decide +kernel
theorem dX11_join_164 : decode cX11_join 164 = .ok (.ireturn, 1) := by decide +kernel
theorem dX11_join_165 : decode cX11_join 165 = .ok (.aload_n 0, 1) := by decide +kernel
theorem dX11_join_166 : decode cX11_join 166 = .ok (.iload_n 1, 1) := by decide +kernel
theorem dX11_join_167 : decode cX11_join 167 = .ok (.iconst 1, 1) := by decide +kernel
theorem dX11_join_168 : decode cX11_join 168 = .ok (.invokevirtual 358, 3) := by decide +kernel
theorem dX11_join_171 : decode cX11_join 171 = .ok (.aload_n 0, 1) := by decide +kernel
theorem dX11_join_172 : decode cX11_join 172 = .ok (.iload_n 2, 1) := by decide +kernel
theorem dX11_join_173 : decode cX11_join 173 = .ok (.iconst 0, 1) := by decide +kernel
theorem dX11_join_174 : decode cX11_join 174 = .ok (.invokevirtual 358, 3) := by decide +kernel
theorem dX11_join_177 : decode cX11_join 177 = .ok (.aload_n 0, 1) := by decide +kernel
theorem dX11_join_178 : decode cX11_join 178 = .ok (.getfield 130, 3) := by decide +kernel
theorem dX11_join_181 : decode cX11_join 181 = .ok (.istore 5, 2) := by decide +kernel
theorem dX11_join_183 : decode cX11_join 183 = .ok (.aload_n 0, 1) := by decide +kernel
theorem dX11_join_184 : decode cX11_join 184 = .ok (.sipush 200, 3) := by decide +kernel
theorem dX11_join_187 : decode cX11_join 187 = .ok (.invokevirtual 368, 3) := by decide +kernel
theorem dX11_join_190 : decode cX11_join 190 = .ok (.iconst 1, 1) := by decide +kernel
theorem dX11_join_191 : decode cX11_join 191 = .ok (.istore 6, 2) := by decide +kernel
theorem dX11_join_193 : decode cX11_join 193 = .ok (.iconst 0, 1) := by decide +kernel
theorem dX11_join_194 : decode cX11_join 194 = .ok (.istore 7, 2) := by decide +kernel
theorem dX11_join_196 : decode cX11_join 196 = .ok (.iload 7, 2) := by decide +kernel
theorem dX11_join_198 : decode cX11_join 198 = .ok (.iload 5, 2) := by decide +kernel
theorem dX11_join_200 : decode cX11_join 200 = .ok (.if_icmp .ge 75, 3) := by decide +kernel
theorem dX11_join_203 : decode cX11_join 203 = .ok (.iload 7, 2) := by decide +kernel
theorem dX11_join_205 : decode cX11_join 205 = .ok (.iload_n 1, 1) := by decide +kernel
theorem dX11_join_206 : decode cX11_join 206 = .ok (.if_icmp .eq 63, 3) := by decide +kernel
theorem dX11_join_209 : decode cX11_join 209 = .ok (.iload 7, 2) := by decide +kernel
theorem dX11_join_211 : decode cX11_join 211 = .ok (.iload_n 2, 1) := by decide +kernel
theorem dX11_join_212 : decode cX11_join 212 = .ok (.if_icmp .eq 57, 3) := by decide +kernel
theorem dX11_join_215 : decode cX11_join 215 = .ok (.aload_n 0, 1) := by decide +kernel
theorem dX11_join_216 : decode cX11_join 216 = .ok (.iload 7, 2) := by decide +kernel
theorem dX11_join_218 : decode cX11_join 218 = .ok (.invokevirtual 197, 3) := by decide +kernel
theorem dX11_join_221 : decode cX11_join 221 = .ok (.ifCond .eq 48, 3) := by decide +kernel
theorem dX11_join_224 : decode cX11_join 224 = .ok (.aload_n 0, 1) := by decide +kernel
theorem dX11_join_225 : decode cX11_join 225 = .ok (.sipush 200, 3) := by decide +kernel
theorem dX11_join_228 : decode cX11_join 228 = .ok (.iload 7, 2) := by decide +kernel
theorem dX11_join_230 : decode cX11_join 230 = .ok (.invokevirtual 200, 3) := by decide +kernel
theorem dX11_join_233 : decode cX11_join 233 = .ok (.ifCond .ne 33, 3) := by decide +kernel
theorem dX11_join_236 : decode cX11_join 236 = .ok (.aload_n 0, 1) := by decide +kernel
theorem dX11_join_237 : decode cX11_join 237 = .ok (.sipush 200, 3) := by decide +kernel
theorem dX11_join_240 : decode cX11_join 240 = .ok (.aload_n 0, 1) := by decide +kernel
theorem dX11_join_241 : decode cX11_join 241 = .ok (.getfield 44, 3) := by decide +kernel
theorem dX11_join_244 : decode cX11_join 244 = .ok (.bipush 40, 2) := by decide +kernel
theorem dX11_join_246 : decode cX11_join 246 = .ok (.iload 7, 2) := by decide +kernel
theorem dX11_join_248 : decode cX11_join 248 = .ok (.imul, 1) := by decide +kernel
theorem dX11_join_249 : decode cX11_join 249 = .ok (.iaload, 1) := by decide +kernel
theorem dX11_join_250 : decode cX11_join 250 = .ok (.aload_n 0, 1) := by decide +kernel
theorem dX11_join_251 : decode cX11_join 251 = .ok (.getfield 47, 3) := by decide +kernel
theorem dX11_join_254 : decode cX11_join 254 = .ok (.bipush 40, 2) := by decide +kernel
theorem dX11_join_256 : decode cX11_join 256 = .ok (.iload 7, 2) := by decide +kernel
theorem dX11_join_258 : decode cX11_join 258 = .ok (.imul, 1) := by decide +kernel
theorem dX11_join_259 : decode cX11_join 259 = .ok (.iaload, 1) := by decide +kernel
theorem dX11_join_260 : decode cX11_join 260 = .ok (.invokevirtual 204, 3) := by decide +kernel
theorem dX11_join_263 : decode cX11_join 263 = .ok (.ifCond .eq 6, 3) := by decide +kernel
theorem dX11_join_266 : decode cX11_join 266 = .ok (.iconst 0, 1) := by decide +kernel
theorem dX11_join_267 : decode cX11_join 267 = .ok (.istore 6, 2) := by decide +kernel
theorem dX11_join_269 : decode cX11_join 269 = .ok (.iinc 7 1, 3) := by decide +kernel
theorem dX11_join_272 : decode cX11_join 272 = .ok (.goto (-76), 3) := by decide +kernel
theorem dX11_join_275 : decode cX11_join 275 = .ok (.iload 6, 2) := by decide +kernel
theorem dX11_join_277 : decode cX11_join 277 = .ok (.ifCond .ne 10, 3) := by decide +kernel
theorem dX11_join_280 : decode cX11_join 280 = .ok (.aload_n 0, 1) := by decide +kernel
theorem dX11_join_281 : decode cX11_join 281 = .ok (.bipush 7, 2) := by decide +kernel
theorem dX11_join_283 : decode cX11_join 283 = .ok (.invokevirtual 126, 3) := by decide +kernel
theorem dX11_join_286 : decode cX11_join 286 = .ok (.ireturn, 1) := by decide +kernel
theorem dX11_join_287 : decode cX11_join 287 = .ok (.iload_n 1, 1) := by decide +kernel
theorem dX11_join_288 : decode cX11_join 288 = .ok (.iload_n 2, 1) := by decide +kernel
theorem dX11_join_289 : decode cX11_join 289 = .ok (.if_icmp .eq 13, 3) := by decide +kernel
theorem dX11_join_292 : decode cX11_join 292 = .ok (.aload_n 0, 1) := by decide +kernel
theorem dX11_join_293 : decode cX11_join 293 = .ok (.getfield 130, 3) := by decide +kernel
theorem dX11_join_296 : decode cX11_join 296 = .ok (.sipush 200, 3) := by decide +kernel
theorem dX11_join_299 : decode cX11_join 299 = .ok (.if_icmp .ne 10, 3) := by decide +kernel
theorem dX11_join_302 : decode cX11_join 302 = .ok (.aload_n 0, 1) := by decide +kernel
theorem dX11_join_303 : decode cX11_join 303 = .ok (.bipush 8, 2) := by decide +kernel
theorem dX11_join_305 : decode cX11_join 305 = .ok (.invokevirtual 126, 3) := by decide +kernel
theorem dX11_join_308 : decode cX11_join 308 = .ok (.ireturn, 1) := by decide +kernel
theorem dX11_join_309 : decode cX11_join 309 = .ok (.aload_n 0, 1) := by decide +kernel
theorem dX11_join_310 : decode cX11_join 310 = .ok (.invokevirtual 322, 3) := by decide +kernel
theorem dX11_join_313 : decode cX11_join 313 = .ok (.aload_n 0, 1) := by decide +kernel
theorem dX11_join_314 : decode cX11_join 314 = .ok (.getfield 130, 3) := by decide +kernel
theorem dX11_join_317 : decode cX11_join 317 = .ok (.istore 7, 2) := by decide +kernel
theorem dX11_join_319 : decode cX11_join 319 = .ok (.aload_n 0, 1) := by decide +kernel
theorem dX11_join_320 : decode cX11_join 320 = .ok (.iload 7, 2) := by decide +kernel
theorem dX11_join_322 : decode cX11_join 322 = .ok (.bipush 6, 2) := by decide +kernel
theorem dX11_join_324 : decode cX11_join 324 = .ok (.aload_n 0, 1) := by decide +kernel
theorem dX11_join_325 : decode cX11_join 325 = .ok (.getfield 13, 3) := by decide +kernel
theorem dX11_join_328 : decode cX11_join 328 = .ok (.iload_n 1, 1) := by decide +kernel
theorem dX11_join_329 : decode cX11_join 329 = .ok (.iaload, 1) := by decide +kernel
theorem dX11_join_330 : decode cX11_join 330 = .ok (.aload_n 0, 1) := by decide +kernel
theorem dX11_join_331 : decode cX11_join 331 = .ok (.getfield 16, 3) := by decide +kernel
theorem dX11_join_334 : decode cX11_join 334 = .ok (.iload_n 1, 1) := by decide +kernel
theorem dX11_join_335 : decode cX11_join 335 = .ok (.iaload, 1) := by decide +kernel
theorem dX11_join_336 : decode cX11_join 336 = .ok (.aload_n 0, 1) := by decide +kernel
theorem dX11_join_337 : decode cX11_join 337 = .ok (.getfield 19, 3) := by decide +kernel
theorem dX11_join_340 : decode cX11_join 340 = .ok (.iload_n 1, 1) := by decide +kernel
theorem dX11_join_341 : decode cX11_join 341 = .ok (.iaload, 1) := by decide +kernel
theorem dX11_join_342 : decode cX11_join 342 = .ok (.invokevirtual 269, 3) := by decide +kernel
theorem dX11_join_345 : decode cX11_join 345 = .ok (.aload_n 0, 1) := by decide +kernel
theorem dX11_join_346 : decode cX11_join 346 = .ok (.iload 7, 2) := by decide +kernel
theorem dX11_join_348 : decode cX11_join 348 = .ok (.invokevirtual 368, 3) := by decide +kernel
theorem dX11_join_351 : decode cX11_join 351 = .ok (.aload_n 0, 1) := by decide +kernel
theorem dX11_join_352 : decode cX11_join 352 = .ok (.getfield 22, 3) := by decide +kernel
theorem dX11_join_355 : decode cX11_join 355 = .ok (.iload 7, 2) := by decide +kernel
theorem dX11_join_357 : decode cX11_join 357 = .ok (.iconst 1, 1) := by decide +kernel
theorem dX11_join_358 : decode cX11_join 358 = .ok (.iastore, 1) := by decide +kernel
theorem dX11_join_359 : decode cX11_join 359 = .ok (.aload_n 0, 1) := by decide +kernel
theorem dX11_join_360 : decode cX11_join 360 = .ok (.getfield 32, 3) := by decide +kernel
theorem dX11_join_363 : decode cX11_join 363 = .ok (.iload 7, 2) := by decide +kernel
theorem dX11_join_365 : decode cX11_join 365 = .ok (.iload_n 1, 1) := by decide +kernel
theorem dX11_join_366 : decode cX11_join 366 = .ok (.iastore, 1) := by decide +kernel
theorem dX11_join_367 : decode cX11_join 367 = .ok (.aload_n 0, 1) := by decide +kernel
theorem dX11_join_368 : decode cX11_join 368 = .ok (.getfield 35, 3) := by decide +kernel
theorem dX11_join_371 : decode cX11_join 371 = .ok (.iload 7, 2) := by decide +kernel
theorem dX11_join_373 : decode cX11_join 373 = .ok (.iload_n 2, 1) := by decide +kernel
theorem dX11_join_374 : decode cX11_join 374 = .ok (.iastore, 1) := by decide +kernel
theorem dX11_join_375 : decode cX11_join 375 = .ok (.aload_n 0, 1) := by decide +kernel
theorem dX11_join_376 : decode cX11_join 376 = .ok (.iload_n 1, 1) := by decide +kernel
theorem dX11_join_377 : decode cX11_join 377 = .ok (.iload 7, 2) := by decide +kernel
theorem dX11_join_379 : decode cX11_join 379 = .ok (.invokevirtual 393, 3) := by decide +kernel
theorem dX11_join_382 : decode cX11_join 382 = .ok (.aload_n 0, 1) := by decide +kernel
theorem dX11_join_383 : decode cX11_join 383 = .ok (.iload_n 2, 1) := by decide +kernel
theorem dX11_join_384 : decode cX11_join 384 = .ok (.iload 7, 2) := by decide +kernel
theorem dX11_join_386 : decode cX11_join 386 = .ok (.invokevirtual 393, 3) := by decide +kernel
theorem dX11_join_389 : decode cX11_join 389 = .ok (.aload_n 0, 1) := by decide +kernel
theorem dX11_join_390 : decode cX11_join 390 = .ok (.aload_n 0, 1) := by decide +kernel
theorem dX11_join_391 : decode cX11_join 391 = .ok (.getfield 279, 3) := by decide +kernel
theorem dX11_join_394 : decode cX11_join 394 = .ok (.invokevirtual 328, 3) := by decide +kernel
theorem dX11_join_397 : decode cX11_join 397 = .ok (.aload_n 0, 1) := by decide +kernel
theorem dX11_join_398 : decode cX11_join 398 = .ok (.bipush 6, 2) := by decide +kernel
theorem dX11_join_400 : decode cX11_join 400 = .ok (.iload_n 1, 1) := by decide +kernel
theorem dX11_join_401 : decode cX11_join 401 = .ok (.iconst 2, 1) := by decide +kernel
theorem dX11_join_402 : decode cX11_join 402 = .ok (.invokevirtual 331, 3) := by decide +kernel
theorem dX11_join_405 : decode cX11_join 405 = .ok (.istore 8, 2) := by decide +kernel
theorem dX11_join_407 : decode cX11_join 407 = .ok (.iload 7, 2) := by decide +kernel
theorem dX11_join_409 : decode cX11_join 409 = .ok (.ireturn, 1) := by decide +kernel
theorem dX11_gone_0 : decode cX11_gone 0 = .ok (.aload_n 0, 1) := by decide +kernel
theorem dX11_gone_1 : decode cX11_gone 1 = .ok (.getfield 22, 3) := by decide +kernel
theorem dX11_gone_4 : decode cX11_gone 4 = .ok (.iload_n 1, 1) := by decide +kernel
theorem dX11_gone_5 : decode cX11_gone 5 = .ok (.iconst 2, 1) := by decide +kernel
theorem dX11_gone_6 : decode cX11_gone 6 = .ok (.iastore, 1) := by decide +kernel
theorem dX11_gone_7 : decode cX11_gone 7 = .ok (.aload_n 0, 1) := by decide +kernel
theorem dX11_gone_8 : decode cX11_gone 8 = .ok (.getfield 29, 3) := by decide +kernel
theorem dX11_gone_11 : decode cX11_gone 11 = .ok (.iload_n 1, 1) := by decide +kernel
theorem dX11_gone_12 : decode cX11_gone 12 = .ok (.aload_n 0, 1) := by decide +kernel
theorem dX11_gone_13 : decode cX11_gone 13 = .ok (.getfield 257, 3) := by decide +kernel
theorem dX11_gone_16 : decode cX11_gone 16 = .ok (.iconst 1, 1) := by decide +kernel
theorem dX11_gone_17 : decode cX11_gone 17 = .ok (.iadd, 1) := by decide +kernel
theorem dX11_gone_18 : decode cX11_gone 18 = .ok (.iastore, 1) := by decide +kernel
theorem dX11_gone_19 : decode cX11_gone 19 = .ok (.aload_n 0, 1) := by decide +kernel
theorem dX11_gone_20 : decode cX11_gone 20 = .ok (.getfield 38, 3) := by decide +kernel
theorem dX11_gone_23 : decode cX11_gone 23 = .ok (.iload_n 1, 1) := by decide +kernel
theorem dX11_gone_24 : decode cX11_gone 24 = .ok (.iload_n 2, 1) := by decide +kernel
theorem dX11_gone_25 : decode cX11_gone 25 = .ok (.iastore, 1) := by decide +kernel
theorem dX11_gone_26 : decode cX11_gone 26 = .ok (.return_, 1) := by decide +kernel
theorem dX11_drop_0 : decode cX11_drop 0 = .ok (.aload_n 0, 1) := by decide +kernel
theorem dX11_drop_1 : decode cX11_drop 1 = .ok (.iload_n 1, 1) := by decide +kernel
theorem dX11_drop_2 : decode cX11_drop 2 = .ok (.invokevirtual 312, 3) := by decide +kernel
theorem dX11_drop_5 : decode cX11_drop 5 = .ok (.istore_n 2, 1) := by decide +kernel
theorem dX11_drop_6 : decode cX11_drop 6 = .ok (.iload_n 2, 1) := by decide +kernel
theorem dX11_drop_7 : decode cX11_drop 7 = .ok (.ifCond .le 7, 3) := by decide +kernel
theorem dX11_drop_10 : decode cX11_drop 10 = .ok (.iload_n 2, 1) := by decide +kernel
theorem dX11_drop_11 : decode cX11_drop 11 = .ok (.goto 17, 3) := by decide +kernel
theorem dX11_drop_14 : decode cX11_drop 14 = .ok (.aload_n 0, 1) := by decide +kernel
theorem dX11_drop_15 : decode cX11_drop 15 = .ok (.getfield 25, 3) := by decide +kernel
theorem dX11_drop_18 : decode cX11_drop 18 = .ok (.iload_n 1, 1) := by decide +kernel
theorem dX11_drop_19 : decode cX11_drop 19 = .ok (.baload, 1) := by decide +kernel
theorem dX11_drop_20 : decode cX11_drop 20 = .ok (.ifCond .eq 7, 3) := by decide +kernel
theorem dX11_drop_23 : decode cX11_drop 23 = .ok (.iconst 5, 1) := by decide +kernel
theorem dX11_drop_24 : decode cX11_drop 24 = .ok (.goto 4, 3) := by decide +kernel
theorem dX11_drop_27 : decode cX11_drop 27 = .ok (.iconst 0, 1) := by decide +kernel
theorem dX11_drop_28 : decode cX11_drop 28 = .ok (.istore_n 2, 1) := by decide +kernel
theorem dX11_drop_29 : decode cX11_drop 29 = .ok (.iload_n 2, 1) := by decide +kernel
theorem dX11_drop_30 : decode cX11_drop 30 = .ok (.ifCond .le 9, 3) := by decide +kernel
theorem dX11_drop_33 : decode cX11_drop 33 = .ok (.aload_n 0, 1) := by decide +kernel
theorem dX11_drop_34 : decode cX11_drop 34 = .ok (.iload_n 2, 1) := by decide +kernel
theorem dX11_drop_35 : decode cX11_drop 35 = .ok (.invokevirtual 276, 3) := by decide +kernel
theorem dX11_drop_38 : decode cX11_drop 38 = .ok (.ireturn, 1) := by decide +kernel
theorem dX11_drop_39 : decode cX11_drop 39 = .ok (.aload_n 0, 1) := by decide +kernel
theorem dX11_drop_40 : decode cX11_drop 40 = .ok (.invokevirtual 322, 3) := by decide +kernel
theorem dX11_drop_43 : decode cX11_drop 43 = .ok (.aload_n 0, 1) := by decide +kernel
theorem dX11_drop_44 : decode cX11_drop 44 = .ok (.iload_n 1, 1) := by decide +kernel
theorem dX11_drop_45 : decode cX11_drop 45 = .ok (.iconst (-1), 1) := by decide +kernel
theorem dX11_drop_46 : decode cX11_drop 46 = .ok (.invokevirtual 393, 3) := by decide +kernel
theorem dX11_drop_49 : decode cX11_drop 49 = .ok (.aload_n 0, 1) := by decide +kernel
theorem dX11_drop_50 : decode cX11_drop 50 = .ok (.aload_n 0, 1) := by decide +kernel
theorem dX11_drop_51 : decode cX11_drop 51 = .ok (.getfield 279, 3) := by decide +kernel
theorem dX11_drop_54 : decode cX11_drop 54 = .ok (.invokevirtual 328, 3) := by decide +kernel
theorem dX11_drop_57 : decode cX11_drop 57 = .ok (.aload_n 0, 1) := by decide +kernel
theorem dX11_drop_58 : decode cX11_drop 58 = .ok (.bipush 7, 2) := by decide +kernel
theorem dX11_drop_60 : decode cX11_drop 60 = .ok (.iload_n 1, 1) := by decide +kernel
theorem dX11_drop_61 : decode cX11_drop 61 = .ok (.iconst 1, 1) := by decide +kernel
theorem dX11_drop_62 : decode cX11_drop 62 = .ok (.invokevirtual 331, 3) := by decide +kernel
theorem dX11_drop_65 : decode cX11_drop 65 = .ok (.istore_n 3, 1) := by decide +kernel
theorem dX11_drop_66 : decode cX11_drop 66 = .ok (.iconst 1, 1) := by decide +kernel
theorem dX11_drop_67 : decode cX11_drop 67 = .ok (.ireturn, 1) := by decide +kernel
theorem dX11_dropMarked_0 : decode cX11_dropMarked 0 = .ok (.iconst 0, 1) := by decide +kernel
theorem dX11_dropMarked_1 : decode cX11_dropMarked 1 = .ok (.istore_n 2, 1) := by decide +kernel
theorem dX11_dropMarked_2 : decode cX11_dropMarked 2 = .ok (.iconst 0, 1) := by decide +kernel
theorem dX11_dropMarked_3 : decode cX11_dropMarked 3 = .ok (.istore_n 3, 1) := by decide +kernel
theorem dX11_dropMarked_4 : decode cX11_dropMarked 4 = .ok (.iload_n 3, 1) := by decide +kernel
theorem dX11_dropMarked_5 : decode cX11_dropMarked 5 = .ok (.aload_n 0, 1) := by decide +kernel
theorem dX11_dropMarked_6 : decode cX11_dropMarked 6 = .ok (.getfield 130, 3) := by decide +kernel
theorem dX11_dropMarked_9 : decode cX11_dropMarked 9 = .ok (.if_icmp .ge 26, 3) := by decide +kernel
theorem dX11_dropMarked_12 : decode cX11_dropMarked 12 = .ok (.iload_n 2, 1) := by decide +kernel
theorem dX11_dropMarked_13 : decode cX11_dropMarked 13 = .ok (.aload_n 0, 1) := by decide +kernel
theorem dX11_dropMarked_14 : decode cX11_dropMarked 14 = .ok (.getfield 107, 3) := by decide +kernel
theorem dX11_dropMarked_17 : decode cX11_dropMarked 17 = .ok (.iload_n 3, 1) := by decide +kernel
theorem dX11_dropMarked_18 : decode cX11_dropMarked 18 = .ok (.baload, 1) := by decide +kernel
theorem dX11_dropMarked_19 : decode cX11_dropMarked 19 = .ok (.ifCond .eq 7, 3) := by decide +kernel
theorem dX11_dropMarked_22 : decode cX11_dropMarked 22 = .ok (.iconst 1, 1) := by decide +kernel
theorem dX11_dropMarked_23 : decode cX11_dropMarked 23 = .ok (.goto 4, 3) := by decide +kernel
theorem dX11_dropMarked_26 : decode cX11_dropMarked 26 = .ok (.iconst 0, 1) := by decide +kernel
theorem dX11_dropMarked_27 : decode cX11_dropMarked 27 = .ok (.iadd, 1) := by decide +kernel
theorem dX11_dropMarked_28 : decode cX11_dropMarked 28 = .ok (.istore_n 2, 1) := by decide +kernel
theorem dX11_dropMarked_29 : decode cX11_dropMarked 29 = .ok (.iinc 3 1, 3) := by decide +kernel
theorem dX11_dropMarked_32 : decode cX11_dropMarked 32 = .ok (.goto (-28), 3) := by decide +kernel
theorem dX11_dropMarked_35 : decode cX11_dropMarked 35 = .ok (.iload_n 2, 1) := by decide +kernel
theorem dX11_dropMarked_36 : decode cX11_dropMarked 36 = .ok (.ifCond .ne 10, 3) := by decide +kernel
theorem dX11_dropMarked_39 : decode cX11_dropMarked 39 = .ok (.aload_n 0, 1) := by decide +kernel
theorem dX11_dropMarked_40 : decode cX11_dropMarked 40 = .ok (.bipush 8, 2) := by decide +kernel
theorem dX11_dropMarked_42 : decode cX11_dropMarked 42 = .ok (.invokevirtual 126, 3) := by decide +kernel
theorem dX11_dropMarked_45 : decode cX11_dropMarked 45 = .ok (.ireturn, 1) := by decide +kernel
theorem dX11_dropMarked_46 : decode cX11_dropMarked 46 = .ok (.aload_n 0, 1) := by decide +kernel
theorem dX11_dropMarked_47 : decode cX11_dropMarked 47 = .ok (.invokevirtual 322, 3) := by decide +kernel
theorem dX11_dropMarked_50 : decode cX11_dropMarked 50 = .ok (.iconst 0, 1) := by decide +kernel
theorem dX11_dropMarked_51 : decode cX11_dropMarked 51 = .ok (.istore_n 3, 1) := by decide +kernel
theorem dX11_dropMarked_52 : decode cX11_dropMarked 52 = .ok (.iload_n 3, 1) := by decide +kernel
theorem dX11_dropMarked_53 : decode cX11_dropMarked 53 = .ok (.aload_n 0, 1) := by decide +kernel
theorem dX11_dropMarked_54 : decode cX11_dropMarked 54 = .ok (.getfield 130, 3) := by decide +kernel
theorem dX11_dropMarked_57 : decode cX11_dropMarked 57 = .ok (.if_icmp .ge 24, 3) := by decide +kernel
theorem dX11_dropMarked_60 : decode cX11_dropMarked 60 = .ok (.aload_n 0, 1) := by decide +kernel
theorem dX11_dropMarked_61 : decode cX11_dropMarked 61 = .ok (.getfield 107, 3) := by decide +kernel
theorem dX11_dropMarked_64 : decode cX11_dropMarked 64 = .ok (.iload_n 3, 1) := by decide +kernel
theorem dX11_dropMarked_65 : decode cX11_dropMarked 65 = .ok (.baload, 1) := by decide +kernel
theorem dX11_dropMarked_66 : decode cX11_dropMarked 66 = .ok (.ifCond .eq 9, 3) := by decide +kernel
theorem dX11_dropMarked_69 : decode cX11_dropMarked 69 = .ok (.aload_n 0, 1) := by decide +kernel
theorem dX11_dropMarked_70 : decode cX11_dropMarked 70 = .ok (.iload_n 3, 1) := by decide +kernel
theorem dX11_dropMarked_71 : decode cX11_dropMarked 71 = .ok (.iconst (-1), 1) := by decide +kernel
theorem dX11_dropMarked_72 : decode cX11_dropMarked 72 = .ok (.invokevirtual 393, 3) := by decide +kernel
theorem dX11_dropMarked_75 : decode cX11_dropMarked 75 = .ok (.iinc 3 1, 3) := by decide +kernel
theorem dX11_dropMarked_78 : decode cX11_dropMarked 78 = .ok (.goto (-26), 3) := by decide +kernel
theorem dX11_dropMarked_81 : decode cX11_dropMarked 81 = .ok (.aload_n 0, 1) := by decide +kernel
theorem dX11_dropMarked_82 : decode cX11_dropMarked 82 = .ok (.aload_n 0, 1) := by decide +kernel
theorem dX11_dropMarked_83 : decode cX11_dropMarked 83 = .ok (.getfield 279, 3) := by decide +kernel
theorem dX11_dropMarked_86 : decode cX11_dropMarked 86 = .ok (.invokevirtual 328, 3) := by decide +kernel
theorem dX11_dropMarked_89 : decode cX11_dropMarked 89 = .ok (.aload_n 0, 1) := by decide +kernel
theorem dX11_dropMarked_90 : decode cX11_dropMarked 90 = .ok (.iload_n 1, 1) := by decide +kernel
theorem dX11_dropMarked_91 : decode cX11_dropMarked 91 = .ok (.iconst (-1), 1) := by decide +kernel
theorem dX11_dropMarked_92 : decode cX11_dropMarked 92 = .ok (.iload_n 2, 1) := by decide +kernel
theorem dX11_dropMarked_93 : decode cX11_dropMarked 93 = .ok (.invokevirtual 331, 3) := by decide +kernel
theorem dX11_dropMarked_96 : decode cX11_dropMarked 96 = .ok (.istore_n 3, 1) := by decide +kernel
theorem dX11_dropMarked_97 : decode cX11_dropMarked 97 = .ok (.iload_n 2, 1) := by decide +kernel
theorem dX11_dropMarked_98 : decode cX11_dropMarked 98 = .ok (.ireturn, 1) := by decide +kernel
theorem dX11_isSmall_0 : decode cX11_isSmall 0 = .ok (.aload_n 0, 1) := by decide +kernel
theorem dX11_isSmall_1 : decode cX11_isSmall 1 = .ok (.iload_n 1, 1) := by decide +kernel
theorem dX11_isSmall_2 : decode cX11_isSmall 2 = .ok (.invokevirtual 197, 3) := by decide +kernel
theorem dX11_isSmall_5 : decode cX11_isSmall 5 = .ok (.ifCond .eq 29, 3) := by decide +kernel
theorem dX11_isSmall_8 : decode cX11_isSmall 8 = .ok (.aload_n 0, 1) := by decide +kernel
theorem dX11_isSmall_9 : decode cX11_isSmall 9 = .ok (.getfield 7, 3) := by decide +kernel
theorem dX11_isSmall_12 : decode cX11_isSmall 12 = .ok (.iload_n 1, 1) := by decide +kernel
theorem dX11_isSmall_13 : decode cX11_isSmall 13 = .ok (.iaload, 1) := by decide +kernel
theorem dX11_isSmall_14 : decode cX11_isSmall 14 = .ok (.bipush 6, 2) := by decide +kernel
theorem dX11_isSmall_16 : decode cX11_isSmall 16 = .ok (.if_icmp .ne 18, 3) := by decide +kernel
theorem dX11_isSmall_19 : decode cX11_isSmall 19 = .ok (.aload_n 0, 1) := by decide +kernel
theorem dX11_isSmall_20 : decode cX11_isSmall 20 = .ok (.iload_n 1, 1) := by decide +kernel
theorem dX11_isSmall_21 : decode cX11_isSmall 21 = .ok (.invokevirtual 364, 3) := by decide +kernel
theorem dX11_isSmall_24 : decode cX11_isSmall 24 = .ok (.iload_n 2, 1) := by decide +kernel
theorem dX11_isSmall_25 : decode cX11_isSmall 25 = .ok (.i2l, 1) := by decide +kernel
theorem dX11_isSmall_26 : decode cX11_isSmall 26 = .ok (.lcmp, 1) := by decide +kernel
theorem dX11_isSmall_27 : decode cX11_isSmall 27 = .ok (.ifCond .ge 7, 3) := by decide +kernel
theorem dX11_isSmall_30 : decode cX11_isSmall 30 = .ok (.iconst 1, 1) := by decide +kernel
theorem dX11_isSmall_31 : decode cX11_isSmall 31 = .ok (.goto 4, 3) := by decide +kernel
theorem dX11_isSmall_34 : decode cX11_isSmall 34 = .ok (.iconst 0, 1) := by decide +kernel
theorem dX11_isSmall_35 : decode cX11_isSmall 35 = .ok (.ireturn, 1) := by decide +kernel
theorem dX11_few_0 : decode cX11_few 0 = .ok (.iload_n 1, 1) := by decide +kernel
theorem dX11_few_1 : decode cX11_few 1 = .ok (.ifCond .lt 14, 3) := by decide +kernel
theorem dX11_few_4 : decode cX11_few 4 = .ok (.iload_n 2, 1) := by decide +kernel
theorem dX11_few_5 : decode cX11_few 5 = .ok (.ifCond .lt 10, 3) := by decide +kernel
theorem dX11_few_8 : decode cX11_few 8 = .ok (.iload_n 2, 1) := by decide +kernel
theorem dX11_few_9 : decode cX11_few 9 = .ok (.sipush 200, 3) := by decide +kernel
theorem dX11_few_12 : decode cX11_few 12 = .ok (.if_icmp .le 9, 3) := by decide +kernel
theorem dX11_few_15 : decode cX11_few 15 = .ok (.aload_n 0, 1) := by decide +kernel
theorem dX11_few_16 : decode cX11_few 16 = .ok (.iconst 4, 1) := by decide +kernel
theorem dX11_few_17 : decode cX11_few 17 = .ok (.invokevirtual 126, 3) := by decide +kernel
theorem dX11_few_20 : decode cX11_few 20 = .ok (.ireturn, 1) := by decide +kernel
theorem dX11_few_21 : decode cX11_few 21 = .ok (.iconst 0, 1) := by decide +kernel
theorem dX11_few_22 : decode cX11_few 22 = .ok (.istore_n 3, 1) := by decide +kernel
theorem dX11_few_23 : decode cX11_few 23 = .ok (.iload_n 3, 1) := by decide +kernel
theorem dX11_few_24 : decode cX11_few 24 = .ok (.aload_n 0, 1) := by decide +kernel
theorem dX11_few_25 : decode cX11_few 25 = .ok (.getfield 130, 3) := by decide +kernel
theorem dX11_few_28 : decode cX11_few 28 = .ok (.if_icmp .ge 175, 3) := by decide +kernel
theorem dX11_few_31 : decode cX11_few 31 = .ok (.iconst 0, 1) := by decide +kernel
theorem dX11_few_32 : decode cX11_few 32 = .ok (.istore 4, 2) := by decide +kernel
theorem dX11_few_34 : decode cX11_few 34 = .ok (.iconst 0, 1) := by decide +kernel
theorem dX11_few_35 : decode cX11_few 35 = .ok (.istore 5, 2) := by decide +kernel
theorem dX11_few_37 : decode cX11_few 37 = .ok (.iload 5, 2) := by decide +kernel
theorem dX11_few_39 : decode cX11_few 39 = .ok (.aload_n 0, 1) := by decide +kernel
theorem dX11_few_40 : decode cX11_few 40 = .ok (.getfield 130, 3) := by decide +kernel
theorem dX11_few_43 : decode cX11_few 43 = .ok (.if_icmp .ge 128, 3) := by decide +kernel
theorem dX11_few_46 : decode cX11_few 46 = .ok (.aload_n 0, 1) := by decide +kernel
theorem dX11_few_47 : decode cX11_few 47 = .ok (.iload_n 3, 1) := by decide +kernel
theorem dX11_few_48 : decode cX11_few 48 = .ok (.iload_n 1, 1) := by decide +kernel
theorem dX11_few_49 : decode cX11_few 49 = .ok (.invokevirtual 396, 3) := by decide +kernel
theorem dX11_few_52 : decode cX11_few 52 = .ok (.ifCond .eq 119, 3) := by decide +kernel
theorem dX11_few_55 : decode cX11_few 55 = .ok (.iload 5, 2) := by decide +kernel
theorem dX11_few_57 : decode cX11_few 57 = .ok (.iload_n 3, 1) := by decide +kernel
theorem dX11_few_58 : decode cX11_few 58 = .ok (.if_icmp .eq 44, 3) := by decide +kernel
theorem dX11_few_61 : decode cX11_few 61 = .ok (.aload_n 0, 1) := by decide +kernel
theorem dX11_few_62 : decode cX11_few 62 = .ok (.iload 5, 2) := by decide +kernel
theorem dX11_few_64 : decode cX11_few 64 = .ok (.invokevirtual 197, 3) := by decide +kernel
theorem dX11_few_67 : decode cX11_few 67 = .ok (.ifCond .eq 35, 3) := by decide +kernel
theorem dX11_few_70 : decode cX11_few 70 = .ok (.aload_n 0, 1) := by decide +kernel
theorem dX11_few_71 : decode cX11_few 71 = .ok (.getfield 7, 3) := by decide +kernel
