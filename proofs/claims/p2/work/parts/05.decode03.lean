theorem dX10_side_5 : decode cX10_side 5 = .ok (.invokevirtual 116, 3) := by decide +kernel
theorem dX10_side_8 : decode cX10_side 8 = .ok (.astore 5, 2) := by decide +kernel
theorem dX10_side_10 : decode cX10_side 10 = .ok (.aload 5, 2) := by decide +kernel
theorem dX10_side_12 : decode cX10_side 12 = .ok (.ifnonnull 7, 3) := by decide +kernel
theorem dX10_side_15 : decode cX10_side 15 = .ok (.aconst_null, 1) := by decide +kernel
theorem dX10_side_16 : decode cX10_side 16 = .ok (.goto 11, 3) := by decide +kernel
theorem dX10_side_19 : decode cX10_side 19 = .ok (.aload 5, 2) := by decide +kernel
theorem dX10_side_21 : decode cX10_side 21 = .ok (.getfield 91, 3) := by decide +kernel
theorem dX10_side_24 : decode cX10_side 24 = .ok (.getfield 103, 3) := by decide +kernel
theorem dX10_side_27 : decode cX10_side 27 = .ok (.astore 6, 2) := by decide +kernel
theorem dX10_side_29 : decode cX10_side 29 = .ok (.aload 6, 2) := by decide +kernel
theorem dX10_side_31 : decode cX10_side 31 = .ok (.ifnull 26, 3) := by decide +kernel
theorem dX10_side_34 : decode cX10_side 34 = .ok (.iload 4, 2) := by decide +kernel
theorem dX10_side_36 : decode cX10_side 36 = .ok (.ifCond .lt 21, 3) := by decide +kernel
theorem dX10_side_39 : decode cX10_side 39 = .ok (.iload 4, 2) := by decide +kernel
theorem dX10_side_41 : decode cX10_side 41 = .ok (.aload 6, 2) := by decide +kernel
theorem dX10_side_43 : decode cX10_side 43 = .ok (.invokevirtual 278, 3) := by decide +kernel
theorem dX10_side_46 : decode cX10_side 46 = .ok (.if_icmp .ge 11, 3) := by decide +kernel
theorem dX10_side_49 : decode cX10_side 49 = .ok (.iload_n 1, 1) := by decide +kernel
theorem dX10_side_50 : decode cX10_side 50 = .ok (.iload_n 2, 1) := by decide +kernel
theorem dX10_side_51 : decode cX10_side 51 = .ok (.invokestatic 123, 3) := by decide +kernel
theorem dX10_side_54 : decode cX10_side 54 = .ok (.ifCond .ne 5, 3) := by decide +kernel
theorem dX10_side_57 : decode cX10_side 57 = .ok (.iconst 0, 1) := by decide +kernel
theorem dX10_side_58 : decode cX10_side 58 = .ok (.ireturn, 1) := by decide +kernel
theorem dX10_side_59 : decode cX10_side 59 = .ok (.aload 6, 2) := by decide +kernel
theorem dX10_side_61 : decode cX10_side 61 = .ok (.iload 4, 2) := by decide +kernel
theorem dX10_side_63 : decode cX10_side 63 = .ok (.iload_n 1, 1) := by decide +kernel
theorem dX10_side_64 : decode cX10_side 64 = .ok (.iload_n 2, 1) := by decide +kernel
theorem dX10_side_65 : decode cX10_side 65 = .ok (.invokevirtual 281, 3) := by decide +kernel
theorem dX10_side_68 : decode cX10_side 68 = .ok (.istore 7, 2) := by decide +kernel
theorem dX10_side_70 : decode cX10_side 70 = .ok (.iload 7, 2) := by decide +kernel
theorem dX10_side_72 : decode cX10_side 72 = .ok (.ifCond .ne 5, 3) := by decide +kernel
theorem dX10_side_75 : decode cX10_side 75 = .ok (.iconst 0, 1) := by decide +kernel
theorem dX10_side_76 : decode cX10_side 76 = .ok (.ireturn, 1) := by decide +kernel
theorem dX10_side_77 : decode cX10_side 77 = .ok (.iload 7, 2) := by decide +kernel
theorem dX10_side_79 : decode cX10_side 79 = .ok (.ifCond .le 7, 3) := by decide +kernel
theorem dX10_side_82 : decode cX10_side 82 = .ok (.iconst 1, 1) := by decide +kernel
theorem dX10_side_83 : decode cX10_side 83 = .ok (.goto 4, 3) := by decide +kernel
theorem dX10_side_86 : decode cX10_side 86 = .ok (.iconst (-1), 1) := by decide +kernel
theorem dX10_side_87 : decode cX10_side 87 = .ok (.ireturn, 1) := by decide +kernel
theorem dX10_near_0 : decode cX10_near 0 = .ok (.aload_n 0, 1) := by decide +kernel
theorem dX10_near_1 : decode cX10_near 1 = .ok (.getfield 12, 3) := by decide +kernel
theorem dX10_near_4 : decode cX10_near 4 = .ok (.iload_n 1, 1) := by decide +kernel
theorem dX10_near_5 : decode cX10_near 5 = .ok (.invokevirtual 240, 3) := by decide +kernel
theorem dX10_near_8 : decode cX10_near 8 = .ok (.astore 4, 2) := by decide +kernel
theorem dX10_near_10 : decode cX10_near 10 = .ok (.aload_n 0, 1) := by decide +kernel
theorem dX10_near_11 : decode cX10_near 11 = .ok (.getfield 12, 3) := by decide +kernel
theorem dX10_near_14 : decode cX10_near 14 = .ok (.iload_n 2, 1) := by decide +kernel
theorem dX10_near_15 : decode cX10_near 15 = .ok (.invokevirtual 240, 3) := by decide +kernel
theorem dX10_near_18 : decode cX10_near 18 = .ok (.astore 5, 2) := by decide +kernel
theorem dX10_near_20 : decode cX10_near 20 = .ok (.aload 4, 2) := by decide +kernel
theorem dX10_near_22 : decode cX10_near 22 = .ok (.ifnull 17, 3) := by decide +kernel
theorem dX10_near_25 : decode cX10_near 25 = .ok (.aload 5, 2) := by decide +kernel
theorem dX10_near_27 : decode cX10_near 27 = .ok (.ifnull 12, 3) := by decide +kernel
theorem dX10_near_30 : decode cX10_near 30 = .ok (.iload_n 3, 1) := by decide +kernel
theorem dX10_near_31 : decode cX10_near 31 = .ok (.iconst 0, 1) := by decide +kernel
theorem dX10_near_32 : decode cX10_near 32 = .ok (.iconst 1, 1) := by decide +kernel
theorem dX10_near_33 : decode cX10_near 33 = .ok (.invokestatic 74, 3) := by decide +kernel
theorem dX10_near_36 : decode cX10_near 36 = .ok (.ifCond .ne 7, 3) := by decide +kernel
theorem dX10_near_39 : decode cX10_near 39 = .ok (.ldc2_w 285, 3) := by decide +kernel
theorem dX10_near_42 : decode cX10_near 42 = .ok (.lreturn, 1) := by decide +kernel
theorem dX10_near_43 : decode cX10_near 43 = .ok (.aload_n 0, 1) := by decide +kernel
theorem dX10_near_44 : decode cX10_near 44 = .ok (.getfield 43, 3) := by decide +kernel
theorem dX10_near_47 : decode cX10_near 47 = .ok (.aload 4, 2) := by decide +kernel
theorem dX10_near_49 : decode cX10_near 49 = .ok (.aload 5, 2) := by decide +kernel
theorem dX10_near_51 : decode cX10_near 51 = .ok (.invokevirtual 202, 3) := by decide +kernel
theorem dX10_near_54 : decode cX10_near 54 = .ok (.aload_n 0, 1) := by decide +kernel
theorem dX10_near_55 : decode cX10_near 55 = .ok (.getfield 43, 3) := by decide +kernel
theorem dX10_near_58 : decode cX10_near 58 = .ok (.iload_n 3, 1) := by decide +kernel
theorem dX10_near_59 : decode cX10_near 59 = .ok (.invokevirtual 287, 3) := by decide +kernel
theorem dX10_near_62 : decode cX10_near 62 = .ok (.lreturn, 1) := by decide +kernel
theorem dX10_clashes_0 : decode cX10_clashes 0 = .ok (.iload_n 1, 1) := by decide +kernel
theorem dX10_clashes_1 : decode cX10_clashes 1 = .ok (.iconst 0, 1) := by decide +kernel
theorem dX10_clashes_2 : decode cX10_clashes 2 = .ok (.sipush 200, 3) := by decide +kernel
theorem dX10_clashes_5 : decode cX10_clashes 5 = .ok (.invokestatic 74, 3) := by decide +kernel
theorem dX10_clashes_8 : decode cX10_clashes 8 = .ok (.ifCond .ne 5, 3) := by decide +kernel
theorem dX10_clashes_11 : decode cX10_clashes 11 = .ok (.iconst (-1), 1) := by decide +kernel
theorem dX10_clashes_12 : decode cX10_clashes 12 = .ok (.ireturn, 1) := by decide +kernel
theorem dX10_clashes_13 : decode cX10_clashes 13 = .ok (.iconst 0, 1) := by decide +kernel
theorem dX10_clashes_14 : decode cX10_clashes 14 = .ok (.istore_n 2, 1) := by decide +kernel
theorem dX10_clashes_15 : decode cX10_clashes 15 = .ok (.aload_n 0, 1) := by decide +kernel
theorem dX10_clashes_16 : decode cX10_clashes 16 = .ok (.iload_n 1, 1) := by decide +kernel
theorem dX10_clashes_17 : decode cX10_clashes 17 = .ok (.iconst 0, 1) := by decide +kernel
theorem dX10_clashes_18 : decode cX10_clashes 18 = .ok (.invokevirtual 291, 3) := by decide +kernel
theorem dX10_clashes_21 : decode cX10_clashes 21 = .ok (.istore_n 3, 1) := by decide +kernel
theorem dX10_clashes_22 : decode cX10_clashes 22 = .ok (.iconst 0, 1) := by decide +kernel
theorem dX10_clashes_23 : decode cX10_clashes 23 = .ok (.istore 4, 2) := by decide +kernel
theorem dX10_clashes_25 : decode cX10_clashes 25 = .ok (.iload 4, 2) := by decide +kernel
theorem dX10_clashes_27 : decode cX10_clashes 27 = .ok (.ldc_w 294, 3) := by decide +kernel
theorem dX10_clashes_30 : decode cX10_clashes 30 = .ok (.if_icmp .ge 24, 3) := by decide +kernel
theorem dX10_clashes_33 : decode cX10_clashes 33 = .ok (.iload_n 3, 1) := by decide +kernel
theorem dX10_clashes_34 : decode cX10_clashes 34 = .ok (.iconst (-1), 1) := by decide +kernel
theorem dX10_clashes_35 : decode cX10_clashes 35 = .ok (.if_icmp .eq 19, 3) := by decide +kernel
theorem dX10_clashes_38 : decode cX10_clashes 38 = .ok (.iinc 2 1, 3) := by decide +kernel
theorem dX10_clashes_41 : decode cX10_clashes 41 = .ok (.aload_n 0, 1) := by decide +kernel
theorem dX10_clashes_42 : decode cX10_clashes 42 = .ok (.iload_n 1, 1) := by decide +kernel
theorem dX10_clashes_43 : decode cX10_clashes 43 = .ok (.iload_n 3, 1) := by decide +kernel
theorem dX10_clashes_44 : decode cX10_clashes 44 = .ok (.invokevirtual 291, 3) := by decide +kernel
theorem dX10_clashes_47 : decode cX10_clashes 47 = .ok (.istore_n 3, 1) := by decide +kernel
theorem dX10_clashes_48 : decode cX10_clashes 48 = .ok (.iinc 4 1, 3) := by decide +kernel
theorem dX10_clashes_51 : decode cX10_clashes 51 = .ok (.goto (-26), 3) := by decide +kernel
theorem dX10_clashes_54 : decode cX10_clashes 54 = .ok (.iload_n 2, 1) := by decide +kernel
theorem dX10_clashes_55 : decode cX10_clashes 55 = .ok (.ireturn, 1) := by decide +kernel
theorem dX10_clash_0 : decode cX10_clash 0 = .ok (.iload_n 1, 1) := by decide +kernel
theorem dX10_clash_1 : decode cX10_clash 1 = .ok (.iconst 0, 1) := by decide +kernel
theorem dX10_clash_2 : decode cX10_clash 2 = .ok (.sipush 200, 3) := by decide +kernel
theorem dX10_clash_5 : decode cX10_clash 5 = .ok (.invokestatic 74, 3) := by decide +kernel
theorem dX10_clash_8 : decode cX10_clash 8 = .ok (.ifCond .eq 14, 3) := by decide +kernel
theorem dX10_clash_11 : decode cX10_clash 11 = .ok (.iload_n 2, 1) := by decide +kernel
theorem dX10_clash_12 : decode cX10_clash 12 = .ok (.iconst 0, 1) := by decide +kernel
theorem dX10_clash_13 : decode cX10_clash 13 = .ok (.ldc_w 294, 3) := by decide +kernel
theorem dX10_clash_16 : decode cX10_clash 16 = .ok (.invokestatic 74, 3) := by decide +kernel
theorem dX10_clash_19 : decode cX10_clash 19 = .ok (.ifCond .ne 5, 3) := by decide +kernel
theorem dX10_clash_22 : decode cX10_clash 22 = .ok (.iconst (-1), 1) := by decide +kernel
theorem dX10_clash_23 : decode cX10_clash 23 = .ok (.ireturn, 1) := by decide +kernel
theorem dX10_clash_24 : decode cX10_clash 24 = .ok (.iload_n 3, 1) := by decide +kernel
theorem dX10_clash_25 : decode cX10_clash 25 = .ok (.iconst 0, 1) := by decide +kernel
theorem dX10_clash_26 : decode cX10_clash 26 = .ok (.iconst 1, 1) := by decide +kernel
theorem dX10_clash_27 : decode cX10_clash 27 = .ok (.invokestatic 74, 3) := by decide +kernel
theorem dX10_clash_30 : decode cX10_clash 30 = .ok (.ifCond .ne 5, 3) := by decide +kernel
theorem dX10_clash_33 : decode cX10_clash 33 = .ok (.iconst (-1), 1) := by decide +kernel
theorem dX10_clash_34 : decode cX10_clash 34 = .ok (.ireturn, 1) := by decide +kernel
theorem dX10_clash_35 : decode cX10_clash 35 = .ok (.aload_n 0, 1) := by decide +kernel
theorem dX10_clash_36 : decode cX10_clash 36 = .ok (.iload_n 1, 1) := by decide +kernel
theorem dX10_clash_37 : decode cX10_clash 37 = .ok (.iconst 0, 1) := by decide +kernel
theorem dX10_clash_38 : decode cX10_clash 38 = .ok (.invokevirtual 291, 3) := by decide +kernel
theorem dX10_clash_41 : decode cX10_clash 41 = .ok (.istore 4, 2) := by decide +kernel
theorem dX10_clash_43 : decode cX10_clash 43 = .ok (.iconst 0, 1) := by decide +kernel
theorem dX10_clash_44 : decode cX10_clash 44 = .ok (.istore 5, 2) := by decide +kernel
theorem dX10_clash_46 : decode cX10_clash 46 = .ok (.iload 5, 2) := by decide +kernel
theorem dX10_clash_48 : decode cX10_clash 48 = .ok (.iload_n 2, 1) := by decide +kernel
theorem dX10_clash_49 : decode cX10_clash 49 = .ok (.if_icmp .ge 24, 3) := by decide +kernel
theorem dX10_clash_52 : decode cX10_clash 52 = .ok (.iload 4, 2) := by decide +kernel
theorem dX10_clash_54 : decode cX10_clash 54 = .ok (.iconst (-1), 1) := by decide +kernel
theorem dX10_clash_55 : decode cX10_clash 55 = .ok (.if_icmp .eq 18, 3) := by decide +kernel
theorem dX10_clash_58 : decode cX10_clash 58 = .ok (.aload_n 0, 1) := by decide +kernel
theorem dX10_clash_59 : decode cX10_clash 59 = .ok (.iload_n 1, 1) := by decide +kernel
theorem dX10_clash_60 : decode cX10_clash 60 = .ok (.iload 4, 2) := by decide +kernel
theorem dX10_clash_62 : decode cX10_clash 62 = .ok (.invokevirtual 291, 3) := by decide +kernel
theorem dX10_clash_65 : decode cX10_clash 65 = .ok (.istore 4, 2) := by decide +kernel
theorem dX10_clash_67 : decode cX10_clash 67 = .ok (.iinc 5 1, 3) := by decide +kernel
theorem dX10_clash_70 : decode cX10_clash 70 = .ok (.goto (-24), 3) := by decide +kernel
theorem dX10_clash_73 : decode cX10_clash 73 = .ok (.iload 4, 2) := by decide +kernel
theorem dX10_clash_75 : decode cX10_clash 75 = .ok (.iconst (-1), 1) := by decide +kernel
theorem dX10_clash_76 : decode cX10_clash 76 = .ok (.if_icmp .ne 5, 3) := by decide +kernel
theorem dX10_clash_79 : decode cX10_clash 79 = .ok (.iconst (-1), 1) := by decide +kernel
theorem dX10_clash_80 : decode cX10_clash 80 = .ok (.ireturn, 1) := by decide +kernel
theorem dX10_clash_81 : decode cX10_clash 81 = .ok (.iload_n 3, 1) := by decide +kernel
theorem dX10_clash_82 : decode cX10_clash 82 = .ok (.ifCond .ne 12, 3) := by decide +kernel
theorem dX10_clash_85 : decode cX10_clash 85 = .ok (.iload 4, 2) := by decide +kernel
theorem dX10_clash_87 : decode cX10_clash 87 = .ok (.sipush 200, 3) := by decide +kernel
theorem dX10_clash_90 : decode cX10_clash 90 = .ok (.idiv, 1) := by decide +kernel
theorem dX10_clash_91 : decode cX10_clash 91 = .ok (.goto 9, 3) := by decide +kernel
theorem dX10_clash_94 : decode cX10_clash 94 = .ok (.iload 4, 2) := by decide +kernel
theorem dX10_clash_96 : decode cX10_clash 96 = .ok (.sipush 200, 3) := by decide +kernel
theorem dX10_clash_99 : decode cX10_clash 99 = .ok (.irem, 1) := by decide +kernel
theorem dX10_clash_100 : decode cX10_clash 100 = .ok (.ireturn, 1) := by decide +kernel
theorem dX10_far_0 : decode cX10_far 0 = .ok (.aload_n 0, 1) := by decide +kernel
theorem dX10_far_1 : decode cX10_far 1 = .ok (.getfield 12, 3) := by decide +kernel
theorem dX10_far_4 : decode cX10_far 4 = .ok (.iload_n 1, 1) := by decide +kernel
theorem dX10_far_5 : decode cX10_far 5 = .ok (.invokevirtual 116, 3) := by decide +kernel
theorem dX10_far_8 : decode cX10_far 8 = .ok (.astore_n 3, 1) := by decide +kernel
theorem dX10_far_9 : decode cX10_far 9 = .ok (.aload_n 0, 1) := by decide +kernel
theorem dX10_far_10 : decode cX10_far 10 = .ok (.getfield 12, 3) := by decide +kernel
theorem dX10_far_13 : decode cX10_far 13 = .ok (.iload_n 1, 1) := by decide +kernel
theorem dX10_far_14 : decode cX10_far 14 = .ok (.invokevirtual 240, 3) := by decide +kernel
theorem dX10_far_17 : decode cX10_far 17 = .ok (.astore 4, 2) := by decide +kernel
theorem dX10_far_19 : decode cX10_far 19 = .ok (.aload_n 3, 1) := by decide +kernel
theorem dX10_far_20 : decode cX10_far 20 = .ok (.ifnull 17, 3) := by decide +kernel
theorem dX10_far_23 : decode cX10_far 23 = .ok (.aload 4, 2) := by decide +kernel
theorem dX10_far_25 : decode cX10_far 25 = .ok (.ifnull 12, 3) := by decide +kernel
theorem dX10_far_28 : decode cX10_far 28 = .ok (.iload_n 2, 1) := by decide +kernel
theorem dX10_far_29 : decode cX10_far 29 = .ok (.iconst 0, 1) := by decide +kernel
theorem dX10_far_30 : decode cX10_far 30 = .ok (.iconst 1, 1) := by decide +kernel
theorem dX10_far_31 : decode cX10_far 31 = .ok (.invokestatic 74, 3) := by decide +kernel
theorem dX10_far_34 : decode cX10_far 34 = .ok (.ifCond .ne 7, 3) := by decide +kernel
theorem dX10_far_37 : decode cX10_far 37 = .ok (.ldc2_w 285, 3) := by decide +kernel
theorem dX10_far_40 : decode cX10_far 40 = .ok (.lreturn, 1) := by decide +kernel
theorem dX10_far_41 : decode cX10_far 41 = .ok (.aload_n 0, 1) := by decide +kernel
theorem dX10_far_42 : decode cX10_far 42 = .ok (.getfield 47, 3) := by decide +kernel
theorem dX10_far_45 : decode cX10_far 45 = .ok (.lconst 0, 1) := by decide +kernel
theorem dX10_far_46 : decode cX10_far 46 = .ok (.lconst 1, 1) := by decide +kernel
theorem dX10_far_47 : decode cX10_far 47 = .ok (.invokevirtual 295, 3) := by decide +kernel
theorem dX10_far_50 : decode cX10_far 50 = .ok (.iconst 0, 1) := by decide +kernel
theorem dX10_far_51 : decode cX10_far 51 = .ok (.istore 5, 2) := by decide +kernel
theorem dX10_far_53 : decode cX10_far 53 = .ok (.iload 5, 2) := by decide +kernel
theorem dX10_far_55 : decode cX10_far 55 = .ok (.aload_n 3, 1) := by decide +kernel
theorem dX10_far_56 : decode cX10_far 56 = .ok (.getfield 91, 3) := by decide +kernel
theorem dX10_far_59 : decode cX10_far 59 = .ok (.getfield 299, 3) := by decide +kernel
theorem dX10_far_62 : decode cX10_far 62 = .ok (.if_icmp .ge 92, 3) := by decide +kernel
theorem dX10_far_65 : decode cX10_far 65 = .ok (.iload 5, 2) := by decide +kernel
theorem dX10_far_67 : decode cX10_far 67 = .ok (.aload_n 3, 1) := by decide +kernel
theorem dX10_far_68 : decode cX10_far 68 = .ok (.getfield 302, 3) := by decide +kernel
theorem dX10_far_71 : decode cX10_far 71 = .ok (.getfield 127, 3) := by decide +kernel
theorem dX10_far_74 : decode cX10_far 74 = .ok (.if_icmp .ge 80, 3) := by decide +kernel
theorem dX10_far_77 : decode cX10_far 77 = .ok (.aload_n 0, 1) := by decide +kernel
theorem dX10_far_78 : decode cX10_far 78 = .ok (.getfield 43, 3) := by decide +kernel
theorem dX10_far_81 : decode cX10_far 81 = .ok (.invokevirtual 305, 3) := by decide +kernel
theorem dX10_far_84 : decode cX10_far 84 = .ok (.aload_n 0, 1) := by decide +kernel
theorem dX10_far_85 : decode cX10_far 85 = .ok (.getfield 43, 3) := by decide +kernel
theorem dX10_far_88 : decode cX10_far 88 = .ok (.aload_n 3, 1) := by decide +kernel
theorem dX10_far_89 : decode cX10_far 89 = .ok (.getfield 302, 3) := by decide +kernel
theorem dX10_far_92 : decode cX10_far 92 = .ok (.getfield 308, 3) := by decide +kernel
theorem dX10_far_95 : decode cX10_far 95 = .ok (.iload 5, 2) := by decide +kernel
theorem dX10_far_97 : decode cX10_far 97 = .ok (.iaload, 1) := by decide +kernel
theorem dX10_far_98 : decode cX10_far 98 = .ok (.aload_n 3, 1) := by decide +kernel
theorem dX10_far_99 : decode cX10_far 99 = .ok (.getfield 302, 3) := by decide +kernel
theorem dX10_far_102 : decode cX10_far 102 = .ok (.getfield 312, 3) := by decide +kernel
theorem dX10_far_105 : decode cX10_far 105 = .ok (.iload 5, 2) := by decide +kernel
theorem dX10_far_107 : decode cX10_far 107 = .ok (.iaload, 1) := by decide +kernel
theorem dX10_far_108 : decode cX10_far 108 = .ok (.aload 4, 2) := by decide +kernel
theorem dX10_far_110 : decode cX10_far 110 = .ok (.invokevirtual 315, 3) := by decide +kernel
theorem dX10_far_113 : decode cX10_far 113 = .ok (.aload_n 0, 1) := by decide +kernel
theorem dX10_far_114 : decode cX10_far 114 = .ok (.getfield 47, 3) := by decide +kernel
theorem dX10_far_117 : decode cX10_far 117 = .ok (.aload_n 0, 1) := by decide +kernel
theorem dX10_far_118 : decode cX10_far 118 = .ok (.getfield 43, 3) := by decide +kernel
theorem dX10_far_121 : decode cX10_far 121 = .ok (.invokevirtual 319, 3) := by decide +kernel
theorem dX10_far_124 : decode cX10_far 124 = .ok (.ifCond .eq 24, 3) := by decide +kernel
theorem dX10_far_127 : decode cX10_far 127 = .ok (.aload_n 0, 1) := by decide +kernel
theorem dX10_far_128 : decode cX10_far 128 = .ok (.getfield 47, 3) := by decide +kernel
theorem dX10_far_131 : decode cX10_far 131 = .ok (.aload_n 0, 1) := by decide +kernel
theorem dX10_far_132 : decode cX10_far 132 = .ok (.getfield 43, 3) := by decide +kernel
theorem dX10_far_135 : decode cX10_far 135 = .ok (.getfield 323, 3) := by decide +kernel
theorem dX10_far_138 : decode cX10_far 138 = .ok (.aload_n 0, 1) := by decide +kernel
theorem dX10_far_139 : decode cX10_far 139 = .ok (.getfield 43, 3) := by decide +kernel
theorem dX10_far_142 : decode cX10_far 142 = .ok (.getfield 327, 3) := by decide +kernel
theorem dX10_far_145 : decode cX10_far 145 = .ok (.invokevirtual 295, 3) := by decide +kernel
theorem dX10_far_148 : decode cX10_far 148 = .ok (.iinc 5 1, 3) := by decide +kernel
theorem dX10_far_151 : decode cX10_far 151 = .ok (.goto (-98), 3) := by decide +kernel
theorem dX10_far_154 : decode cX10_far 154 = .ok (.aload_n 0, 1) := by decide +kernel
theorem dX10_far_155 : decode cX10_far 155 = .ok (.getfield 47, 3) := by decide +kernel
theorem dX10_far_158 : decode cX10_far 158 = .ok (.iload_n 2, 1) := by decide +kernel
theorem dX10_far_159 : decode cX10_far 159 = .ok (.invokevirtual 287, 3) := by decide +kernel
theorem dX10_far_162 : decode cX10_far 162 = .ok (.lreturn, 1) := by decide +kernel
theorem dX10_size_0 : decode cX10_size 0 = .ok (.aload_n 0, 1) := by decide +kernel
theorem dX10_size_1 : decode cX10_size 1 = .ok (.getfield 12, 3) := by decide +kernel
theorem dX10_size_4 : decode cX10_size 4 = .ok (.iload_n 1, 1) := by decide +kernel
theorem dX10_size_5 : decode cX10_size 5 = .ok (.invokevirtual 240, 3) := by decide +kernel
theorem dX10_size_8 : decode cX10_size 8 = .ok (.astore_n 2, 1) := by decide +kernel
theorem dX10_size_9 : decode cX10_size 9 = .ok (.aload_n 2, 1) := by decide +kernel
theorem dX10_size_10 : decode cX10_size 10 = .ok (.ifnonnull 7, 3) := by decide +kernel
theorem dX10_size_13 : decode cX10_size 13 = .ok (.ldc2_w 285, 3) := by decide +kernel
theorem dX10_size_16 : decode cX10_size 16 = .ok (.lreturn, 1) := by decide +kernel
theorem dX10_size_17 : decode cX10_size 17 = .ok (.aload_n 2, 1) := by decide +kernel
theorem dX10_size_18 : decode cX10_size 18 = .ok (.getfield 270, 3) := by decide +kernel
theorem dX10_size_21 : decode cX10_size 21 = .ok (.ifCond .eq 11, 3) := by decide +kernel
theorem dX10_size_24 : decode cX10_size 24 = .ok (.aload_n 2, 1) := by decide +kernel
theorem dX10_size_25 : decode cX10_size 25 = .ok (.invokevirtual 191, 3) := by decide +kernel
theorem dX10_size_28 : decode cX10_size 28 = .ok (.i2l, 1) := by decide +kernel
theorem dX10_size_29 : decode cX10_size 29 = .ok (.goto 8, 3) := by decide +kernel
theorem dX10_size_32 : decode cX10_size 32 = .ok (.aload_n 2, 1) := by decide +kernel
theorem dX10_size_33 : decode cX10_size 33 = .ok (.invokevirtual 330, 3) := by decide +kernel
theorem dX10_size_36 : decode cX10_size 36 = .ok (.i2l, 1) := by decide +kernel
theorem dX10_size_37 : decode cX10_size 37 = .ok (.lreturn, 1) := by decide +kernel
theorem dX10_at_0 : decode cX10_at 0 = .ok (.aload_n 0, 1) := by decide +kernel
theorem dX10_at_1 : decode cX10_at 1 = .ok (.getfield 12, 3) := by decide +kernel
theorem dX10_at_4 : decode cX10_at 4 = .ok (.iload_n 1, 1) := by decide +kernel
theorem dX10_at_5 : decode cX10_at 5 = .ok (.invokevirtual 116, 3) := by decide +kernel
theorem dX10_at_8 : decode cX10_at 8 = .ok (.astore 4, 2) := by decide +kernel
theorem dX10_at_10 : decode cX10_at 10 = .ok (.aload 4, 2) := by decide +kernel
theorem dX10_at_12 : decode cX10_at 12 = .ok (.ifnull 12, 3) := by decide +kernel
theorem dX10_at_15 : decode cX10_at 15 = .ok (.iload_n 3, 1) := by decide +kernel
theorem dX10_at_16 : decode cX10_at 16 = .ok (.iconst 0, 1) := by decide +kernel
theorem dX10_at_17 : decode cX10_at 17 = .ok (.iconst 1, 1) := by decide +kernel
theorem dX10_at_18 : decode cX10_at 18 = .ok (.invokestatic 74, 3) := by decide +kernel
theorem dX10_at_21 : decode cX10_at 21 = .ok (.ifCond .ne 5, 3) := by decide +kernel
theorem dX10_at_24 : decode cX10_at 24 = .ok (.iconst (-1), 1) := by decide +kernel
theorem dX10_at_25 : decode cX10_at 25 = .ok (.ireturn, 1) := by decide +kernel
theorem dX10_at_26 : decode cX10_at 26 = .ok (.aload 4, 2) := by decide +kernel
theorem dX10_at_28 : decode cX10_at 28 = .ok (.getfield 91, 3) := by decide +kernel
theorem dX10_at_31 : decode cX10_at 31 = .ok (.getfield 103, 3) := by decide +kernel
theorem dX10_at_34 : decode cX10_at 34 = .ok (.astore 5, 2) := by decide +kernel
theorem dX10_at_36 : decode cX10_at 36 = .ok (.aload 5, 2) := by decide +kernel
theorem dX10_at_38 : decode cX10_at 38 = .ok (.ifnull 16, 3) := by decide +kernel
theorem dX10_at_41 : decode cX10_at 41 = .ok (.iload_n 2, 1) := by decide +kernel
theorem dX10_at_42 : decode cX10_at 42 = .ok (.ifCond .lt 12, 3) := by decide +kernel
theorem dX10_at_45 : decode cX10_at 45 = .ok (.iload_n 2, 1) := by decide +kernel
theorem dX10_at_46 : decode cX10_at 46 = .ok (.aload 5, 2) := by decide +kernel
theorem dX10_at_48 : decode cX10_at 48 = .ok (.getfield 127, 3) := by decide +kernel
theorem dX10_at_51 : decode cX10_at 51 = .ok (.if_icmp .lt 5, 3) := by decide +kernel
theorem dX10_at_54 : decode cX10_at 54 = .ok (.iconst (-1), 1) := by decide +kernel
theorem dX10_at_55 : decode cX10_at 55 = .ok (.ireturn, 1) := by decide +kernel
theorem dX10_at_56 : decode cX10_at 56 = .ok (.iload_n 3, 1) := by decide +kernel
theorem dX10_at_57 : decode cX10_at 57 = .ok (.ifCond .ne 13, 3) := by decide +kernel
theorem dX10_at_60 : decode cX10_at 60 = .ok (.aload 5, 2) := by decide +kernel
theorem dX10_at_62 : decode cX10_at 62 = .ok (.getfield 308, 3) := by decide +kernel
theorem dX10_at_65 : decode cX10_at 65 = .ok (.iload_n 2, 1) := by decide +kernel
theorem dX10_at_66 : decode cX10_at 66 = .ok (.iaload, 1) := by decide +kernel
theorem dX10_at_67 : decode cX10_at 67 = .ok (.goto 10, 3) := by decide +kernel
theorem dX10_at_70 : decode cX10_at 70 = .ok (.aload 5, 2) := by decide +kernel
theorem dX10_at_72 : decode cX10_at 72 = .ok (.getfield 312, 3) := by decide +kernel
theorem dX10_at_75 : decode cX10_at 75 = .ok (.iload_n 2, 1) := by decide +kernel
theorem dX10_at_76 : decode cX10_at 76 = .ok (.iaload, 1) := by decide +kernel
theorem dX10_at_77 : decode cX10_at 77 = .ok (.ireturn, 1) := by decide +kernel
theorem dX10_told_0 : decode cX10_told 0 = .ok (.aload_n 0, 1) := by decide +kernel
theorem dX10_told_1 : decode cX10_told 1 = .ok (.getfield 12, 3) := by decide +kernel
theorem dX10_told_4 : decode cX10_told 4 = .ok (.iload_n 1, 1) := by decide +kernel
theorem dX10_told_5 : decode cX10_told 5 = .ok (.invokevirtual 116, 3) := by decide +kernel
theorem dX10_told_8 : decode cX10_told 8 = .ok (.astore_n 3, 1) := by decide +kernel
theorem dX10_told_9 : decode cX10_told 9 = .ok (.aload_n 3, 1) := by decide +kernel
theorem dX10_told_10 : decode cX10_told 10 = .ok (.ifnonnull 5, 3) := by decide +kernel
theorem dX10_told_13 : decode cX10_told 13 = .ok (.iconst (-1), 1) := by decide +kernel
theorem dX10_told_14 : decode cX10_told 14 = .ok (.ireturn, 1) := by decide +kernel
theorem dX10_told_15 : decode cX10_told 15 = .ok (.iload_n 2, 1) := by decide +kernel
theorem dX10_told_16 : decode cX10_told 16 = .ok (.tableswitch 158 0 10 #[60, 68, 73, 78, 83, 108, 116, 132, 140, 145, 150], 60) := by decide +kernel
theorem dX10_told_76 : decode cX10_told 76 = .ok (.aload_n 3, 1) := by decide +kernel
theorem dX10_told_77 : decode cX10_told 77 = .ok (.getfield 91, 3) := by decide +kernel
theorem dX10_told_80 : decode cX10_told 80 = .ok (.getfield 130, 3) := by decide +kernel
theorem dX10_told_83 : decode cX10_told 83 = .ok (.ireturn, 1) := by decide +kernel
theorem dX10_told_84 : decode cX10_told 84 = .ok (.aload_n 3, 1) := by decide +kernel
theorem dX10_told_85 : decode cX10_told 85 = .ok (.getfield 333, 3) := by decide +kernel
theorem dX10_told_88 : decode cX10_told 88 = .ok (.ireturn, 1) := by decide +kernel
theorem dX10_told_89 : decode cX10_told 89 = .ok (.aload_n 3, 1) := by decide +kernel
theorem dX10_told_90 : decode cX10_told 90 = .ok (.getfield 336, 3) := by decide +kernel
theorem dX10_told_93 : decode cX10_told 93 = .ok (.ireturn, 1) := by decide +kernel
theorem dX10_told_94 : decode cX10_told 94 = .ok (.aload_n 3, 1) := by decide +kernel
theorem dX10_told_95 : decode cX10_told 95 = .ok (.getfield 339, 3) := by decide +kernel
theorem dX10_told_98 : decode cX10_told 98 = .ok (.ireturn, 1) := by decide +kernel
theorem dX10_told_99 : decode cX10_told 99 = .ok (.aload_n 3, 1) := by decide +kernel
theorem dX10_told_100 : decode cX10_told 100 = .ok (.getfield 91, 3) := by decide +kernel
theorem dX10_told_103 : decode cX10_told 103 = .ok (.getfield 103, 3) := by decide +kernel
theorem dX10_told_106 : decode cX10_told 106 = .ok (.ifnonnull 7, 3) := by decide +kernel
theorem dX10_told_109 : decode cX10_told 109 = .ok (.iconst 0, 1) := by decide +kernel
theorem dX10_told_110 : decode cX10_told 110 = .ok (.goto 13, 3) := by decide +kernel
theorem dX10_told_113 : decode cX10_told 113 = .ok (.aload_n 3, 1) := by decide +kernel
theorem dX10_told_114 : decode cX10_told 114 = .ok (.getfield 91, 3) := by decide +kernel
theorem dX10_told_117 : decode cX10_told 117 = .ok (.getfield 103, 3) := by decide +kernel
theorem dX10_told_120 : decode cX10_told 120 = .ok (.getfield 127, 3) := by decide +kernel
theorem dX10_told_123 : decode cX10_told 123 = .ok (.ireturn, 1) := by decide +kernel
theorem dX10_told_124 : decode cX10_told 124 = .ok (.aload_n 3, 1) := by decide +kernel
theorem dX10_told_125 : decode cX10_told 125 = .ok (.getfield 91, 3) := by decide +kernel
theorem dX10_told_128 : decode cX10_told 128 = .ok (.getfield 120, 3) := by decide +kernel
theorem dX10_told_131 : decode cX10_told 131 = .ok (.ireturn, 1) := by decide +kernel
theorem dX10_told_132 : decode cX10_told 132 = .ok (.aload_n 3, 1) := by decide +kernel
theorem dX10_told_133 : decode cX10_told 133 = .ok (.getfield 91, 3) := by decide +kernel
theorem dX10_told_136 : decode cX10_told 136 = .ok (.getfield 103, 3) := by decide +kernel
theorem dX10_told_139 : decode cX10_told 139 = .ok (.ifnonnull 7, 3) := by decide +kernel
theorem dX10_told_142 : decode cX10_told 142 = .ok (.iconst 1, 1) := by decide +kernel
theorem dX10_told_143 : decode cX10_told 143 = .ok (.goto 4, 3) := by decide +kernel
theorem dX10_told_146 : decode cX10_told 146 = .ok (.iconst 0, 1) := by decide +kernel
theorem dX10_told_147 : decode cX10_told 147 = .ok (.ireturn, 1) := by decide +kernel
theorem dX10_told_148 : decode cX10_told 148 = .ok (.aload_n 3, 1) := by decide +kernel
theorem dX10_told_149 : decode cX10_told 149 = .ok (.getfield 91, 3) := by decide +kernel
theorem dX10_told_152 : decode cX10_told 152 = .ok (.getfield 342, 3) := by decide +kernel
theorem dX10_told_155 : decode cX10_told 155 = .ok (.ireturn, 1) := by decide +kernel
theorem dX10_told_156 : decode cX10_told 156 = .ok (.aload_n 3, 1) := by decide +kernel
theorem dX10_told_157 : decode cX10_told 157 = .ok (.getfield 345, 3) := by decide +kernel
theorem dX10_told_160 : decode cX10_told 160 = .ok (.ireturn, 1) := by decide +kernel
theorem dX10_told_161 : decode cX10_told 161 = .ok (.aload_n 3, 1) := by decide +kernel
theorem dX10_told_162 : decode cX10_told 162 = .ok (.getfield 348, 3) := by decide +kernel
theorem dX10_told_165 : decode cX10_told 165 = .ok (.ireturn, 1) := by decide +kernel
theorem dX10_told_166 : decode cX10_told 166 = .ok (.aload_n 3, 1) := by decide +kernel
theorem dX10_told_167 : decode cX10_told 167 = .ok (.getfield 91, 3) := by decide +kernel
theorem dX10_told_170 : decode cX10_told 170 = .ok (.getfield 351, 3) := by decide +kernel
theorem dX10_told_173 : decode cX10_told 173 = .ok (.ireturn, 1) := by decide +kernel
theorem dX10_told_174 : decode cX10_told 174 = .ok (.iconst (-1), 1) := by decide +kernel
theorem dX10_told_175 : decode cX10_told 175 = .ok (.ireturn, 1) := by decide +kernel
theorem dX10_step_0 : decode cX10_step 0 = .ok (.iload_n 1, 1) := by decide +kernel
theorem dX10_step_1 : decode cX10_step 1 = .ok (.iconst 1, 1) := by decide +kernel
theorem dX10_step_2 : decode cX10_step 2 = .ok (.if_icmp .lt 14, 3) := by decide +kernel
theorem dX10_step_5 : decode cX10_step 5 = .ok (.iload_n 1, 1) := by decide +kernel
theorem dX10_step_6 : decode cX10_step 6 = .ok (.aload_n 0, 1) := by decide +kernel
theorem dX10_step_7 : decode cX10_step 7 = .ok (.getfield 57, 3) := by decide +kernel
theorem dX10_step_10 : decode cX10_step 10 = .ok (.invokevirtual 244, 3) := by decide +kernel
theorem dX10_step_13 : decode cX10_step 13 = .ok (.if_icmp .le 5, 3) := by decide +kernel
theorem dX10_step_16 : decode cX10_step 16 = .ok (.iconst (-1), 1) := by decide +kernel
theorem dX10_step_17 : decode cX10_step 17 = .ok (.ireturn, 1) := by decide +kernel
theorem dX10_step_18 : decode cX10_step 18 = .ok (.aload_n 0, 1) := by decide +kernel
theorem dX10_step_19 : decode cX10_step 19 = .ok (.getfield 57, 3) := by decide +kernel
theorem dX10_step_22 : decode cX10_step 22 = .ok (.iload_n 1, 1) := by decide +kernel
theorem dX10_step_23 : decode cX10_step 23 = .ok (.iconst 1, 1) := by decide +kernel
theorem dX10_step_24 : decode cX10_step 24 = .ok (.isub, 1) := by decide +kernel
theorem dX10_step_25 : decode cX10_step 25 = .ok (.invokevirtual 247, 3) := by decide +kernel
theorem dX10_step_28 : decode cX10_step 28 = .ok (.checkcast 251, 3) := by decide +kernel
theorem dX10_step_31 : decode cX10_step 31 = .ok (.astore_n 3, 1) := by decide +kernel
theorem dX10_step_32 : decode cX10_step 32 = .ok (.iload_n 2, 1) := by decide +kernel
theorem dX10_step_33 : decode cX10_step 33 = .ok (.tableswitch 60 0 3 #[31, 36, 41, 46], 31) := by decide +kernel
theorem dX10_step_64 : decode cX10_step 64 = .ok (.aload_n 3, 1) := by decide +kernel
theorem dX10_step_65 : decode cX10_step 65 = .ok (.getfield 354, 3) := by decide +kernel
theorem dX10_step_68 : decode cX10_step 68 = .ok (.ireturn, 1) := by decide +kernel
theorem dX10_step_69 : decode cX10_step 69 = .ok (.aload_n 3, 1) := by decide +kernel
theorem dX10_step_70 : decode cX10_step 70 = .ok (.getfield 357, 3) := by decide +kernel
theorem dX10_step_73 : decode cX10_step 73 = .ok (.ireturn, 1) := by decide +kernel
theorem dX10_step_74 : decode cX10_step 74 = .ok (.aload_n 3, 1) := by decide +kernel
theorem dX10_step_75 : decode cX10_step 75 = .ok (.getfield 360, 3) := by decide +kernel
theorem dX10_step_78 : decode cX10_step 78 = .ok (.ireturn, 1) := by decide +kernel
theorem dX10_step_79 : decode cX10_step 79 = .ok (.iload_n 1, 1) := by decide +kernel
theorem dX10_step_80 : decode cX10_step 80 = .ok (.aload_n 0, 1) := by decide +kernel
theorem dX10_step_81 : decode cX10_step 81 = .ok (.getfield 61, 3) := by decide +kernel
theorem dX10_step_84 : decode cX10_step 84 = .ok (.if_icmp .gt 7, 3) := by decide +kernel
theorem dX10_step_87 : decode cX10_step 87 = .ok (.iconst 1, 1) := by decide +kernel
theorem dX10_step_88 : decode cX10_step 88 = .ok (.goto 4, 3) := by decide +kernel
theorem dX10_step_91 : decode cX10_step 91 = .ok (.iconst 0, 1) := by decide +kernel
theorem dX10_step_92 : decode cX10_step 92 = .ok (.ireturn, 1) := by decide +kernel
theorem dX10_step_93 : decode cX10_step 93 = .ok (.iconst (-1), 1) := by decide +kernel
theorem dX10_step_94 : decode cX10_step 94 = .ok (.ireturn, 1) := by decide +kernel
theorem dX10_count_0 : decode cX10_count 0 = .ok (.iload_n 1, 1) := by decide +kernel
theorem dX10_count_1 : decode cX10_count 1 = .ok (.tableswitch 112 0 7 #[47, 55, 64, 73, 81, 89, 94, 107], 47) := by decide +kernel
theorem dX10_count_48 : decode cX10_count 48 = .ok (.aload_n 0, 1) := by decide +kernel
theorem dX10_count_49 : decode cX10_count 49 = .ok (.getfield 12, 3) := by decide +kernel
theorem dX10_count_52 : decode cX10_count 52 = .ok (.getfield 224, 3) := by decide +kernel
theorem dX10_count_55 : decode cX10_count 55 = .ok (.ireturn, 1) := by decide +kernel
theorem dX10_count_56 : decode cX10_count 56 = .ok (.aload_n 0, 1) := by decide +kernel
theorem dX10_count_57 : decode cX10_count 57 = .ok (.getfield 12, 3) := by decide +kernel
theorem dX10_count_60 : decode cX10_count 60 = .ok (.iconst 1, 1) := by decide +kernel
theorem dX10_count_61 : decode cX10_count 61 = .ok (.invokevirtual 363, 3) := by decide +kernel
theorem dX10_count_64 : decode cX10_count 64 = .ok (.ireturn, 1) := by decide +kernel
theorem dX10_count_65 : decode cX10_count 65 = .ok (.aload_n 0, 1) := by decide +kernel
theorem dX10_count_66 : decode cX10_count 66 = .ok (.getfield 12, 3) := by decide +kernel
theorem dX10_count_69 : decode cX10_count 69 = .ok (.iconst 2, 1) := by decide +kernel
theorem dX10_count_70 : decode cX10_count 70 = .ok (.invokevirtual 363, 3) := by decide +kernel
theorem dX10_count_73 : decode cX10_count 73 = .ok (.ireturn, 1) := by decide +kernel
theorem dX10_count_74 : decode cX10_count 74 = .ok (.aload_n 0, 1) := by decide +kernel
theorem dX10_count_75 : decode cX10_count 75 = .ok (.getfield 12, 3) := by decide +kernel
theorem dX10_count_78 : decode cX10_count 78 = .ok (.invokevirtual 366, 3) := by decide +kernel
theorem dX10_count_81 : decode cX10_count 81 = .ok (.ireturn, 1) := by decide +kernel
theorem dX10_count_82 : decode cX10_count 82 = .ok (.aload_n 0, 1) := by decide +kernel
theorem dX10_count_83 : decode cX10_count 83 = .ok (.getfield 12, 3) := by decide +kernel
theorem dX10_count_86 : decode cX10_count 86 = .ok (.invokevirtual 369, 3) := by decide +kernel
theorem dX10_count_89 : decode cX10_count 89 = .ok (.ireturn, 1) := by decide +kernel
theorem dX10_count_90 : decode cX10_count 90 = .ok (.aload_n 0, 1) := by decide +kernel
theorem dX10_count_91 : decode cX10_count 91 = .ok (.getfield 61, 3) := by decide +kernel
theorem dX10_count_94 : decode cX10_count 94 = .ok (.ireturn, 1) := by decide +kernel
theorem dX10_count_95 : decode cX10_count 95 = .ok (.aload_n 0, 1) := by decide +kernel
theorem dX10_count_96 : decode cX10_count 96 = .ok (.getfield 57, 3) := by decide +kernel
theorem dX10_count_99 : decode cX10_count 99 = .ok (.invokevirtual 244, 3) := by decide +kernel
theorem dX10_count_102 : decode cX10_count 102 = .ok (.aload_n 0, 1) := by decide +kernel
theorem dX10_count_103 : decode cX10_count 103 = .ok (.getfield 61, 3) := by decide +kernel
theorem dX10_count_106 : decode cX10_count 106 = .ok (.isub, 1) := by decide +kernel
theorem dX10_count_107 : decode cX10_count 107 = .ok (.ireturn, 1) := by decide +kernel
theorem dX10_count_108 : decode cX10_count 108 = .ok (.aload_n 0, 1) := by decide +kernel
theorem dX10_count_109 : decode cX10_count 109 = .ok (.getfield 68, 3) := by decide +kernel
theorem dX10_count_112 : decode cX10_count 112 = .ok (.ireturn, 1) := by decide +kernel
theorem dX10_count_113 : decode cX10_count 113 = .ok (.iconst (-1), 1) := by decide +kernel
theorem dX10_count_114 : decode cX10_count 114 = .ok (.ireturn, 1) := by decide +kernel
theorem dX10_status_0 : decode cX10_status 0 = .ok (.aload_n 0, 1) := by decide +kernel
theorem dX10_status_1 : decode cX10_status 1 = .ok (.getfield 71, 3) := by decide +kernel
theorem dX10_status_4 : decode cX10_status 4 = .ok (.ireturn, 1) := by decide +kernel
theorem dX10_isWithin_0 : decode cX10_isWithin 0 = .ok (.iload_n 0, 1) := by decide +kernel
theorem dX10_isWithin_1 : decode cX10_isWithin 1 = .ok (.iload_n 1, 1) := by decide +kernel
theorem dX10_isWithin_2 : decode cX10_isWithin 2 = .ok (.if_icmp .lt 12, 3) := by decide +kernel
theorem dX10_isWithin_5 : decode cX10_isWithin 5 = .ok (.iload_n 0, 1) := by decide +kernel
theorem dX10_isWithin_6 : decode cX10_isWithin 6 = .ok (.iload_n 2, 1) := by decide +kernel
theorem dX10_isWithin_7 : decode cX10_isWithin 7 = .ok (.if_icmp .gt 7, 3) := by decide +kernel
theorem dX10_isWithin_10 : decode cX10_isWithin 10 = .ok (.iconst 1, 1) := by decide +kernel
theorem dX10_isWithin_11 : decode cX10_isWithin 11 = .ok (.goto 4, 3) := by decide +kernel
theorem dX10_isWithin_14 : decode cX10_isWithin 14 = .ok (.iconst 0, 1) := by decide +kernel
theorem dX10_isWithin_15 : decode cX10_isWithin 15 = .ok (.ireturn, 1) := by decide +kernel
theorem dX10_isPlace_0 : decode cX10_isPlace 0 = .ok (.iload_n 0, 1) := by decide +kernel
theorem dX10_isPlace_1 : decode cX10_isPlace 1 = .ok (.iconst 0, 1) := by decide +kernel
theorem dX10_isPlace_2 : decode cX10_isPlace 2 = .ok (.sipush 1000, 3) := by decide +kernel
theorem dX10_isPlace_5 : decode cX10_isPlace 5 = .ok (.invokestatic 74, 3) := by decide +kernel
theorem dX10_isPlace_8 : decode cX10_isPlace 8 = .ok (.ifCond .eq 18, 3) := by decide +kernel
theorem dX10_isPlace_11 : decode cX10_isPlace 11 = .ok (.iload_n 1, 1) := by decide +kernel
theorem dX10_isPlace_12 : decode cX10_isPlace 12 = .ok (.iconst 0, 1) := by decide +kernel
theorem dX10_isPlace_13 : decode cX10_isPlace 13 = .ok (.sipush 1000, 3) := by decide +kernel
theorem dX10_isPlace_16 : decode cX10_isPlace 16 = .ok (.invokestatic 74, 3) := by decide +kernel
theorem dX10_isPlace_19 : decode cX10_isPlace 19 = .ok (.ifCond .eq 7, 3) := by decide +kernel
theorem dX10_isPlace_22 : decode cX10_isPlace 22 = .ok (.iconst 1, 1) := by decide +kernel
theorem dX10_isPlace_23 : decode cX10_isPlace 23 = .ok (.goto 4, 3) := by decide +kernel
theorem dX10_isPlace_26 : decode cX10_isPlace 26 = .ok (.iconst 0, 1) := by decide +kernel
theorem dX10_isPlace_27 : decode cX10_isPlace 27 = .ok (.ireturn, 1) := by decide +kernel
theorem dX10_mostCorners_0 : decode cX10_mostCorners 0 = .ok (.iload_n 0, 1) := by decide +kernel
theorem dX10_mostCorners_1 : decode cX10_mostCorners 1 = .ok (.ifCond .ne 7, 3) := by decide +kernel
theorem dX10_mostCorners_4 : decode cX10_mostCorners 4 = .ok (.iconst 1, 1) := by decide +kernel
theorem dX10_mostCorners_5 : decode cX10_mostCorners 5 = .ok (.goto 5, 3) := by decide +kernel
theorem dX10_mostCorners_8 : decode cX10_mostCorners 8 = .ok (.bipush 40, 2) := by decide +kernel
theorem dX10_mostCorners_10 : decode cX10_mostCorners 10 = .ok (.ireturn, 1) := by decide +kernel
theorem dX10_fewestCorners_0 : decode cX10_fewestCorners 0 = .ok (.iload_n 0, 1) := by decide +kernel
theorem dX10_fewestCorners_1 : decode cX10_fewestCorners 1 = .ok (.ifCond .ne 5, 3) := by decide +kernel
theorem dX10_fewestCorners_4 : decode cX10_fewestCorners 4 = .ok (.iconst 1, 1) := by decide +kernel
theorem dX10_fewestCorners_5 : decode cX10_fewestCorners 5 = .ok (.ireturn, 1) := by decide +kernel
theorem dX10_fewestCorners_6 : decode cX10_fewestCorners 6 = .ok (.iload_n 0, 1) := by decide +kernel
theorem dX10_fewestCorners_7 : decode cX10_fewestCorners 7 = .ok (.iconst 5, 1) := by decide +kernel
theorem dX10_fewestCorners_8 : decode cX10_fewestCorners 8 = .ok (.if_icmp .ge 7, 3) := by decide +kernel
theorem dX10_fewestCorners_11 : decode cX10_fewestCorners 11 = .ok (.iconst 2, 1) := by decide +kernel
theorem dX10_fewestCorners_12 : decode cX10_fewestCorners 12 = .ok (.goto 4, 3) := by decide +kernel
theorem dX10_fewestCorners_15 : decode cX10_fewestCorners 15 = .ok (.iconst 3, 1) := by decide +kernel
theorem dX10_fewestCorners_16 : decode cX10_fewestCorners 16 = .ok (.ireturn, 1) := by decide +kernel
theorem dX10_refuse_0 : decode cX10_refuse 0 = .ok (.aload_n 0, 1) := by decide +kernel
theorem dX10_refuse_1 : decode cX10_refuse 1 = .ok (.iload_n 1, 1) := by decide +kernel
theorem dX10_refuse_2 : decode cX10_refuse 2 = .ok (.putfield 71, 3) := by decide +kernel
theorem dX10_refuse_5 : decode cX10_refuse 5 = .ok (.iload_n 1, 1) := by decide +kernel
theorem dX10_refuse_6 : decode cX10_refuse 6 = .ok (.bipush 7, 2) := by decide +kernel
theorem dX10_refuse_8 : decode cX10_refuse 8 = .ok (.if_icmp .ne 13, 3) := by decide +kernel
theorem dX10_refuse_11 : decode cX10_refuse 11 = .ok (.aload_n 0, 1) := by decide +kernel
theorem dX10_refuse_12 : decode cX10_refuse 12 = .ok (.dup, 1) := by decide +kernel
theorem dX10_refuse_13 : decode cX10_refuse 13 = .ok (.getfield 68, 3) := by decide +kernel
theorem dX10_refuse_16 : decode cX10_refuse 16 = .ok (.iconst 1, 1) := by decide +kernel
theorem dX10_refuse_17 : decode cX10_refuse 17 = .ok (.iadd, 1) := by decide +kernel
theorem dX10_refuse_18 : decode cX10_refuse 18 = .ok (.putfield 68, 3) := by decide +kernel
theorem dX10_refuse_21 : decode cX10_refuse 21 = .ok (.iconst (-1), 1) := by decide +kernel
theorem dX10_refuse_22 : decode cX10_refuse 22 = .ok (.ireturn, 1) := by decide +kernel
theorem dX10_deny_0 : decode cX10_deny 0 = .ok (.aload_n 0, 1) := by decide +kernel
theorem dX10_deny_1 : decode cX10_deny 1 = .ok (.iload_n 1, 1) := by decide +kernel
theorem dX10_deny_2 : decode cX10_deny 2 = .ok (.invokevirtual 78, 3) := by decide +kernel
theorem dX10_deny_5 : decode cX10_deny 5 = .ok (.pop, 1) := by decide +kernel
theorem dX10_deny_6 : decode cX10_deny 6 = .ok (.iconst 0, 1) := by decide +kernel
theorem dX10_deny_7 : decode cX10_deny 7 = .ok (.ireturn, 1) := by decide +kernel
theorem dX10_seal_0 : decode cX10_seal 0 = .ok (.aload_n 0, 1) := by decide +kernel
theorem dX10_seal_1 : decode cX10_seal 1 = .ok (.invokevirtual 372, 3) := by decide +kernel
theorem dX10_seal_4 : decode cX10_seal 4 = .ok (.aload_n 0, 1) := by decide +kernel
theorem dX10_seal_5 : decode cX10_seal 5 = .ok (.aload_n 0, 1) := by decide +kernel
theorem dX10_seal_6 : decode cX10_seal 6 = .ok (.getfield 61, 3) := by decide +kernel
theorem dX10_seal_9 : decode cX10_seal 9 = .ok (.putfield 65, 3) := by decide +kernel
theorem dX10_seal_12 : decode cX10_seal 12 = .ok (.aload_n 0, 1) := by decide +kernel
theorem dX10_seal_13 : decode cX10_seal 13 = .ok (.iconst 0, 1) := by decide +kernel
theorem dX10_seal_14 : decode cX10_seal 14 = .ok (.putfield 71, 3) := by decide +kernel
theorem dX10_seal_17 : decode cX10_seal 17 = .ok (.iconst 1, 1) := by decide +kernel
theorem dX10_seal_18 : decode cX10_seal 18 = .ok (.ireturn, 1) := by decide +kernel
theorem dX10_forgetUndone_0 : decode cX10_forgetUndone 0 = .ok (.aload_n 0, 1) := by decide +kernel
theorem dX10_forgetUndone_1 : decode cX10_forgetUndone 1 = .ok (.getfield 57, 3) := by decide +kernel
theorem dX10_forgetUndone_4 : decode cX10_forgetUndone 4 = .ok (.invokevirtual 244, 3) := by decide +kernel
theorem dX10_forgetUndone_7 : decode cX10_forgetUndone 7 = .ok (.iconst 1, 1) := by decide +kernel
theorem dX10_forgetUndone_8 : decode cX10_forgetUndone 8 = .ok (.isub, 1) := by decide +kernel
theorem dX10_forgetUndone_9 : decode cX10_forgetUndone 9 = .ok (.istore_n 1, 1) := by decide +kernel
theorem dX10_forgetUndone_10 : decode cX10_forgetUndone 10 = .ok (.iload_n 1, 1) := by decide +kernel
theorem dX10_forgetUndone_11 : decode cX10_forgetUndone 11 = .ok (.aload_n 0, 1) := by decide +kernel
theorem dX10_forgetUndone_12 : decode cX10_forgetUndone 12 = .ok (.getfield 61, 3) := by decide +kernel
theorem dX10_forgetUndone_15 : decode cX10_forgetUndone 15 = .ok (.if_icmp .lt 22, 3) := by decide +kernel
theorem dX10_forgetUndone_18 : decode cX10_forgetUndone 18 = .ok (.iload_n 1, 1) := by decide +kernel
theorem dX10_forgetUndone_19 : decode cX10_forgetUndone 19 = .ok (.ifCond .lt 18, 3) := by decide +kernel
theorem dX10_forgetUndone_22 : decode cX10_forgetUndone 22 = .ok (.aload_n 0, 1) := by decide +kernel
theorem dX10_forgetUndone_23 : decode cX10_forgetUndone 23 = .ok (.getfield 57, 3) := by decide +kernel
theorem dX10_forgetUndone_26 : decode cX10_forgetUndone 26 = .ok (.iload_n 1, 1) := by decide +kernel
theorem dX10_forgetUndone_27 : decode cX10_forgetUndone 27 = .ok (.invokevirtual 375, 3) := by decide +kernel
theorem dX10_forgetUndone_30 : decode cX10_forgetUndone 30 = .ok (.pop, 1) := by decide +kernel
theorem dX10_forgetUndone_31 : decode cX10_forgetUndone 31 = .ok (.iinc 1 (-1), 3) := by decide +kernel
theorem dX10_forgetUndone_34 : decode cX10_forgetUndone 34 = .ok (.goto (-24), 3) := by decide +kernel
theorem dX10_forgetUndone_37 : decode cX10_forgetUndone 37 = .ok (.return_, 1) := by decide +kernel
theorem dX10_book_0 : decode cX10_book 0 = .ok (.aload_n 0, 1) := by decide +kernel
theorem dX10_book_1 : decode cX10_book 1 = .ok (.invokevirtual 372, 3) := by decide +kernel
theorem dX10_book_4 : decode cX10_book 4 = .ok (.new 251, 3) := by decide +kernel
theorem dX10_book_7 : decode cX10_book 7 = .ok (.dup, 1) := by decide +kernel
theorem dX10_book_8 : decode cX10_book 8 = .ok (.iload_n 1, 1) := by decide +kernel
theorem dX10_book_9 : decode cX10_book 9 = .ok (.iload_n 2, 1) := by decide +kernel
theorem dX10_book_10 : decode cX10_book 10 = .ok (.iload_n 3, 1) := by decide +kernel
theorem dX10_book_11 : decode cX10_book 11 = .ok (.aload 4, 2) := by decide +kernel
theorem dX10_book_13 : decode cX10_book 13 = .ok (.invokespecial 378, 3) := by decide +kernel
theorem dX10_book_16 : decode cX10_book 16 = .ok (.astore 5, 2) := by decide +kernel
theorem dX10_book_18 : decode cX10_book 18 = .ok (.iconst 0, 1) := by decide +kernel
theorem dX10_book_19 : decode cX10_book 19 = .ok (.istore 6, 2) := by decide +kernel
theorem dX10_book_21 : decode cX10_book 21 = .ok (.iload 6, 2) := by decide +kernel
theorem dX10_book_23 : decode cX10_book 23 = .ok (.aload_n 0, 1) := by decide +kernel
theorem dX10_book_24 : decode cX10_book 24 = .ok (.getfield 12, 3) := by decide +kernel
theorem dX10_book_27 : decode cX10_book 27 = .ok (.getfield 224, 3) := by decide +kernel
theorem dX10_book_30 : decode cX10_book 30 = .ok (.if_icmp .ge 58, 3) := by decide +kernel
theorem dX10_book_33 : decode cX10_book 33 = .ok (.aload_n 0, 1) := by decide +kernel
theorem dX10_book_34 : decode cX10_book 34 = .ok (.getfield 12, 3) := by decide +kernel
theorem dX10_book_37 : decode cX10_book 37 = .ok (.iload 6, 2) := by decide +kernel
theorem dX10_book_39 : decode cX10_book 39 = .ok (.invokevirtual 116, 3) := by decide +kernel
theorem dX10_book_42 : decode cX10_book 42 = .ok (.astore 7, 2) := by decide +kernel
theorem dX10_book_44 : decode cX10_book 44 = .ok (.aload 7, 2) := by decide +kernel
theorem dX10_book_46 : decode cX10_book 46 = .ok (.ifnull 36, 3) := by decide +kernel
theorem dX10_book_49 : decode cX10_book 49 = .ok (.aload 7, 2) := by decide +kernel
theorem dX10_book_51 : decode cX10_book 51 = .ok (.getfield 381, 3) := by decide +kernel
theorem dX10_book_54 : decode cX10_book 54 = .ok (.ifnull 28, 3) := by decide +kernel
theorem dX10_book_57 : decode cX10_book 57 = .ok (.aload 5, 2) := by decide +kernel
theorem dX10_book_59 : decode cX10_book 59 = .ok (.new 384, 3) := by decide +kernel
theorem dX10_book_62 : decode cX10_book 62 = .ok (.dup, 1) := by decide +kernel
theorem dX10_book_63 : decode cX10_book 63 = .ok (.aload 7, 2) := by decide +kernel
theorem dX10_book_65 : decode cX10_book 65 = .ok (.aload 5, 2) := by decide +kernel
theorem dX10_book_67 : decode cX10_book 67 = .ok (.getfield 386, 3) := by decide +kernel
theorem dX10_book_70 : decode cX10_book 70 = .ok (.invokespecial 390, 3) := by decide +kernel
theorem dX10_book_73 : decode cX10_book 73 = .ok (.putfield 386, 3) := by decide +kernel
theorem dX10_book_76 : decode cX10_book 76 = .ok (.aload 7, 2) := by decide +kernel
theorem dX10_book_78 : decode cX10_book 78 = .ok (.aconst_null, 1) := by decide +kernel
theorem dX10_book_79 : decode cX10_book 79 = .ok (.putfield 381, 3) := by decide +kernel
theorem dX10_book_82 : decode cX10_book 82 = .ok (.iinc 6 1, 3) := by decide +kernel
theorem dX10_book_85 : decode cX10_book 85 = .ok (.goto (-64), 3) := by decide +kernel
theorem dX10_book_88 : decode cX10_book 88 = .ok (.aload_n 0, 1) := by decide +kernel
theorem dX10_book_89 : decode cX10_book 89 = .ok (.getfield 57, 3) := by decide +kernel
theorem dX10_book_92 : decode cX10_book 92 = .ok (.aload 5, 2) := by decide +kernel
theorem dX10_book_94 : decode cX10_book 94 = .ok (.invokevirtual 393, 3) := by decide +kernel
theorem dX10_book_97 : decode cX10_book 97 = .ok (.pop, 1) := by decide +kernel
theorem dX10_book_98 : decode cX10_book 98 = .ok (.aload_n 0, 1) := by decide +kernel
theorem dX10_book_99 : decode cX10_book 99 = .ok (.aload_n 0, 1) := by decide +kernel
theorem dX10_book_100 : decode cX10_book 100 = .ok (.getfield 57, 3) := by decide +kernel
theorem dX10_book_103 : decode cX10_book 103 = .ok (.invokevirtual 244, 3) := by decide +kernel
theorem dX10_book_106 : decode cX10_book 106 = .ok (.putfield 61, 3) := by decide +kernel
theorem dX10_book_109 : decode cX10_book 109 = .ok (.aload_n 0, 1) := by decide +kernel
theorem dX10_book_110 : decode cX10_book 110 = .ok (.iconst 0, 1) := by decide +kernel
theorem dX10_book_111 : decode cX10_book 111 = .ok (.putfield 71, 3) := by decide +kernel
theorem dX10_book_114 : decode cX10_book 114 = .ok (.iconst 1, 1) := by decide +kernel
theorem dX10_book_115 : decode cX10_book 115 = .ok (.ireturn, 1) := by decide +kernel
theorem dX10_moveTo_0 : decode cX10_moveTo 0 = .ok (.aload_n 0, 1) := by decide +kernel
theorem dX10_moveTo_1 : decode cX10_moveTo 1 = .ok (.getfield 19, 3) := by decide +kernel
theorem dX10_moveTo_4 : decode cX10_moveTo 4 = .ok (.aload_n 0, 1) := by decide +kernel
theorem dX10_moveTo_5 : decode cX10_moveTo 5 = .ok (.getfield 12, 3) := by decide +kernel
theorem dX10_moveTo_8 : decode cX10_moveTo 8 = .ok (.aload_n 1, 1) := by decide +kernel
theorem dX10_moveTo_9 : decode cX10_moveTo 9 = .ok (.iconst (-1), 1) := by decide +kernel
theorem dX10_moveTo_10 : decode cX10_moveTo 10 = .ok (.invokevirtual 195, 3) := by decide +kernel
theorem dX10_moveTo_13 : decode cX10_moveTo 13 = .ok (.ifCond .ne 10, 3) := by decide +kernel
theorem dX10_moveTo_16 : decode cX10_moveTo 16 = .ok (.aload_n 0, 1) := by decide +kernel
theorem dX10_moveTo_17 : decode cX10_moveTo 17 = .ok (.bipush 7, 2) := by decide +kernel
theorem dX10_moveTo_19 : decode cX10_moveTo 19 = .ok (.invokevirtual 137, 3) := by decide +kernel
theorem dX10_moveTo_22 : decode cX10_moveTo 22 = .ok (.ireturn, 1) := by decide +kernel
theorem dX10_moveTo_23 : decode cX10_moveTo 23 = .ok (.aload_n 0, 1) := by decide +kernel
theorem dX10_moveTo_24 : decode cX10_moveTo 24 = .ok (.getfield 19, 3) := by decide +kernel
theorem dX10_moveTo_27 : decode cX10_moveTo 27 = .ok (.getfield 158, 3) := by decide +kernel
theorem dX10_moveTo_30 : decode cX10_moveTo 30 = .ok (.aload_n 1, 1) := by decide +kernel
theorem dX10_moveTo_31 : decode cX10_moveTo 31 = .ok (.getfield 91, 3) := by decide +kernel
theorem dX10_moveTo_34 : decode cX10_moveTo 34 = .ok (.getfield 103, 3) := by decide +kernel
theorem dX10_moveTo_37 : decode cX10_moveTo 37 = .ok (.invokevirtual 396, 3) := by decide +kernel
theorem dX10_moveTo_40 : decode cX10_moveTo 40 = .ok (.ifCond .eq 10, 3) := by decide +kernel
theorem dX10_moveTo_43 : decode cX10_moveTo 43 = .ok (.aload_n 0, 1) := by decide +kernel
theorem dX10_moveTo_44 : decode cX10_moveTo 44 = .ok (.bipush 8, 2) := by decide +kernel
theorem dX10_moveTo_46 : decode cX10_moveTo 46 = .ok (.invokevirtual 137, 3) := by decide +kernel
theorem dX10_moveTo_49 : decode cX10_moveTo 49 = .ok (.ireturn, 1) := by decide +kernel
theorem dX10_moveTo_50 : decode cX10_moveTo 50 = .ok (.aload_n 1, 1) := by decide +kernel
theorem dX10_moveTo_51 : decode cX10_moveTo 51 = .ok (.aload_n 0, 1) := by decide +kernel
theorem dX10_moveTo_52 : decode cX10_moveTo 52 = .ok (.getfield 19, 3) := by decide +kernel
theorem dX10_moveTo_55 : decode cX10_moveTo 55 = .ok (.getfield 158, 3) := by decide +kernel
theorem dX10_moveTo_58 : decode cX10_moveTo 58 = .ok (.invokevirtual 199, 3) := by decide +kernel
theorem dX10_moveTo_61 : decode cX10_moveTo 61 = .ok (.aload_n 0, 1) := by decide +kernel
theorem dX10_moveTo_62 : decode cX10_moveTo 62 = .ok (.iload_n 3, 1) := by decide +kernel
theorem dX10_moveTo_63 : decode cX10_moveTo 63 = .ok (.iload_n 2, 1) := by decide +kernel
theorem dX10_moveTo_64 : decode cX10_moveTo 64 = .ok (.iconst 0, 1) := by decide +kernel
theorem dX10_moveTo_65 : decode cX10_moveTo 65 = .ok (.aconst_null, 1) := by decide +kernel
theorem dX10_moveTo_66 : decode cX10_moveTo 66 = .ok (.invokevirtual 154, 3) := by decide +kernel
theorem dX10_moveTo_69 : decode cX10_moveTo 69 = .ok (.ireturn, 1) := by decide +kernel
theorem dX10_thin_0 : decode cX10_thin 0 = .ok (.iconst 0, 1) := by decide +kernel
theorem dX10_thin_1 : decode cX10_thin 1 = .ok (.istore_n 3, 1) := by decide +kernel
theorem dX10_thin_2 : decode cX10_thin 2 = .ok (.iconst 0, 1) := by decide +kernel
theorem dX10_thin_3 : decode cX10_thin 3 = .ok (.istore 4, 2) := by decide +kernel
theorem dX10_thin_5 : decode cX10_thin 5 = .ok (.iload 4, 2) := by decide +kernel
theorem dX10_thin_7 : decode cX10_thin 7 = .ok (.bipush 40, 2) := by decide +kernel
theorem dX10_thin_9 : decode cX10_thin 9 = .ok (.if_icmp .ge 42, 3) := by decide +kernel
theorem dX10_thin_12 : decode cX10_thin 12 = .ok (.aload_n 0, 1) := by decide +kernel
theorem dX10_thin_13 : decode cX10_thin 13 = .ok (.getfield 19, 3) := by decide +kernel
theorem dX10_thin_16 : decode cX10_thin 16 = .ok (.aload_n 0, 1) := by decide +kernel
theorem dX10_thin_17 : decode cX10_thin 17 = .ok (.getfield 12, 3) := by decide +kernel
theorem dX10_thin_20 : decode cX10_thin 20 = .ok (.aload_n 1, 1) := by decide +kernel
theorem dX10_thin_21 : decode cX10_thin 21 = .ok (.iload_n 2, 1) := by decide +kernel
theorem dX10_thin_22 : decode cX10_thin 22 = .ok (.invokevirtual 399, 3) := by decide +kernel
theorem dX10_thin_25 : decode cX10_thin 25 = .ok (.istore 5, 2) := by decide +kernel
theorem dX10_thin_27 : decode cX10_thin 27 = .ok (.iload 5, 2) := by decide +kernel
theorem dX10_thin_29 : decode cX10_thin 29 = .ok (.iconst (-1), 1) := by decide +kernel
theorem dX10_thin_30 : decode cX10_thin 30 = .ok (.if_icmp .ne 6, 3) := by decide +kernel
theorem dX10_thin_33 : decode cX10_thin 33 = .ok (.goto 18, 3) := by decide +kernel
theorem dX10_thin_36 : decode cX10_thin 36 = .ok (.aload_n 1, 1) := by decide +kernel
theorem dX10_thin_37 : decode cX10_thin 37 = .ok (.iload 5, 2) := by decide +kernel
theorem dX10_thin_39 : decode cX10_thin 39 = .ok (.invokevirtual 403, 3) := by decide +kernel
theorem dX10_thin_42 : decode cX10_thin 42 = .ok (.iinc 3 1, 3) := by decide +kernel
theorem dX10_thin_45 : decode cX10_thin 45 = .ok (.iinc 4 1, 3) := by decide +kernel
theorem dX10_thin_48 : decode cX10_thin 48 = .ok (.goto (-43), 3) := by decide +kernel
theorem dX10_thin_51 : decode cX10_thin 51 = .ok (.iload_n 3, 1) := by decide +kernel
theorem dX10_thin_52 : decode cX10_thin 52 = .ok (.ireturn, 1) := by decide +kernel
theorem dX10_unite_0 : decode cX10_unite 0 = .ok (.new 86, 3) := by decide +kernel
theorem dX10_unite_3 : decode cX10_unite 3 = .ok (.dup, 1) := by decide +kernel
theorem dX10_unite_4 : decode cX10_unite 4 = .ok (.bipush 6, 2) := by decide +kernel
theorem dX10_unite_6 : decode cX10_unite 6 = .ok (.aload_n 1, 1) := by decide +kernel
theorem dX10_unite_7 : decode cX10_unite 7 = .ok (.getfield 333, 3) := by decide +kernel
theorem dX10_unite_10 : decode cX10_unite 10 = .ok (.aload_n 1, 1) := by decide +kernel
theorem dX10_unite_11 : decode cX10_unite 11 = .ok (.getfield 336, 3) := by decide +kernel
theorem dX10_unite_14 : decode cX10_unite 14 = .ok (.aload_n 1, 1) := by decide +kernel
theorem dX10_unite_15 : decode cX10_unite 15 = .ok (.getfield 339, 3) := by decide +kernel
theorem dX10_unite_18 : decode cX10_unite 18 = .ok (.invokespecial 88, 3) := by decide +kernel
theorem dX10_unite_21 : decode cX10_unite 21 = .ok (.astore 5, 2) := by decide +kernel
theorem dX10_unite_23 : decode cX10_unite 23 = .ok (.aload 5, 2) := by decide +kernel
theorem dX10_unite_25 : decode cX10_unite 25 = .ok (.getfield 91, 3) := by decide +kernel
theorem dX10_unite_28 : decode cX10_unite 28 = .ok (.aload_n 0, 1) := by decide +kernel
theorem dX10_unite_29 : decode cX10_unite 29 = .ok (.getfield 19, 3) := by decide +kernel
theorem dX10_unite_32 : decode cX10_unite 32 = .ok (.getfield 158, 3) := by decide +kernel
theorem dX10_unite_35 : decode cX10_unite 35 = .ok (.invokevirtual 406, 3) := by decide +kernel
theorem dX10_unite_38 : decode cX10_unite 38 = .ok (.putfield 103, 3) := by decide +kernel
theorem dX10_unite_41 : decode cX10_unite 41 = .ok (.aload 5, 2) := by decide +kernel
theorem dX10_unite_43 : decode cX10_unite 43 = .ok (.getfield 91, 3) := by decide +kernel
theorem dX10_unite_46 : decode cX10_unite 46 = .ok (.iconst 1, 1) := by decide +kernel
theorem dX10_unite_47 : decode cX10_unite 47 = .ok (.putfield 120, 3) := by decide +kernel
theorem dX10_unite_50 : decode cX10_unite 50 = .ok (.aload 5, 2) := by decide +kernel
theorem dX10_unite_52 : decode cX10_unite 52 = .ok (.iload_n 3, 1) := by decide +kernel
theorem dX10_unite_53 : decode cX10_unite 53 = .ok (.putfield 345, 3) := by decide +kernel
theorem dX10_unite_56 : decode cX10_unite 56 = .ok (.aload 5, 2) := by decide +kernel
theorem dX10_unite_58 : decode cX10_unite 58 = .ok (.iload 4, 2) := by decide +kernel
theorem dX10_unite_60 : decode cX10_unite 60 = .ok (.putfield 348, 3) := by decide +kernel
theorem dX10_unite_63 : decode cX10_unite 63 = .ok (.aload_n 1, 1) := by decide +kernel
theorem dX10_unite_64 : decode cX10_unite 64 = .ok (.aload_n 0, 1) := by decide +kernel
theorem dX10_unite_65 : decode cX10_unite 65 = .ok (.getfield 61, 3) := by decide +kernel
theorem dX10_unite_68 : decode cX10_unite 68 = .ok (.iconst 1, 1) := by decide +kernel
theorem dX10_unite_69 : decode cX10_unite 69 = .ok (.iadd, 1) := by decide +kernel
theorem dX10_unite_70 : decode cX10_unite 70 = .ok (.invokevirtual 220, 3) := by decide +kernel
theorem dX10_unite_73 : decode cX10_unite 73 = .ok (.aload_n 2, 1) := by decide +kernel
theorem dX10_unite_74 : decode cX10_unite 74 = .ok (.aload_n 0, 1) := by decide +kernel
theorem dX10_unite_75 : decode cX10_unite 75 = .ok (.getfield 61, 3) := by decide +kernel
theorem dX10_unite_78 : decode cX10_unite 78 = .ok (.iconst 1, 1) := by decide +kernel
theorem dX10_unite_79 : decode cX10_unite 79 = .ok (.iadd, 1) := by decide +kernel
theorem dX10_unite_80 : decode cX10_unite 80 = .ok (.invokevirtual 220, 3) := by decide +kernel
theorem dX10_unite_83 : decode cX10_unite 83 = .ok (.aload_n 0, 1) := by decide +kernel
theorem dX10_unite_84 : decode cX10_unite 84 = .ok (.getfield 12, 3) := by decide +kernel
theorem dX10_unite_87 : decode cX10_unite 87 = .ok (.aload 5, 2) := by decide +kernel
theorem dX10_unite_89 : decode cX10_unite 89 = .ok (.invokevirtual 112, 3) := by decide +kernel
theorem dX10_unite_92 : decode cX10_unite 92 = .ok (.istore 6, 2) := by decide +kernel
theorem dX10_unite_94 : decode cX10_unite 94 = .ok (.aload_n 1, 1) := by decide +kernel
theorem dX10_unite_95 : decode cX10_unite 95 = .ok (.getfield 91, 3) := by decide +kernel
theorem dX10_unite_98 : decode cX10_unite 98 = .ok (.iload 6, 2) := by decide +kernel
theorem dX10_unite_100 : decode cX10_unite 100 = .ok (.putfield 351, 3) := by decide +kernel
theorem dX10_unite_103 : decode cX10_unite 103 = .ok (.aload_n 2, 1) := by decide +kernel
theorem dX10_unite_104 : decode cX10_unite 104 = .ok (.getfield 91, 3) := by decide +kernel
theorem dX10_unite_107 : decode cX10_unite 107 = .ok (.iload 6, 2) := by decide +kernel
theorem dX10_unite_109 : decode cX10_unite 109 = .ok (.putfield 351, 3) := by decide +kernel
theorem dX10_unite_112 : decode cX10_unite 112 = .ok (.aload_n 0, 1) := by decide +kernel
theorem dX10_unite_113 : decode cX10_unite 113 = .ok (.bipush 6, 2) := by decide +kernel
theorem dX10_unite_115 : decode cX10_unite 115 = .ok (.iload_n 3, 1) := by decide +kernel
theorem dX10_unite_116 : decode cX10_unite 116 = .ok (.iconst 2, 1) := by decide +kernel
theorem dX10_unite_117 : decode cX10_unite 117 = .ok (.aload 5, 2) := by decide +kernel
theorem dX10_unite_119 : decode cX10_unite 119 = .ok (.invokevirtual 154, 3) := by decide +kernel
theorem dX10_unite_122 : decode cX10_unite 122 = .ok (.pop, 1) := by decide +kernel
theorem dX10_unite_123 : decode cX10_unite 123 = .ok (.iload 6, 2) := by decide +kernel
theorem dX10_unite_125 : decode cX10_unite 125 = .ok (.ireturn, 1) := by decide +kernel
theorem dX10_isSmallHouse_0 : decode cX10_isSmallHouse 0 = .ok (.aload_n 0, 1) := by decide +kernel
theorem dX10_isSmallHouse_1 : decode cX10_isSmallHouse 1 = .ok (.getfield 12, 3) := by decide +kernel
theorem dX10_isSmallHouse_4 : decode cX10_isSmallHouse 4 = .ok (.iload_n 1, 1) := by decide +kernel
theorem dX10_isSmallHouse_5 : decode cX10_isSmallHouse 5 = .ok (.invokevirtual 410, 3) := by decide +kernel
theorem dX10_isSmallHouse_8 : decode cX10_isSmallHouse 8 = .ok (.astore_n 3, 1) := by decide +kernel
theorem dX10_isSmallHouse_9 : decode cX10_isSmallHouse 9 = .ok (.aload_n 3, 1) := by decide +kernel
theorem dX10_isSmallHouse_10 : decode cX10_isSmallHouse 10 = .ok (.ifnull 15, 3) := by decide +kernel
theorem dX10_isSmallHouse_13 : decode cX10_isSmallHouse 13 = .ok (.aload_n 3, 1) := by decide +kernel
theorem dX10_isSmallHouse_14 : decode cX10_isSmallHouse 14 = .ok (.invokevirtual 191, 3) := by decide +kernel
theorem dX10_isSmallHouse_17 : decode cX10_isSmallHouse 17 = .ok (.iload_n 2, 1) := by decide +kernel
theorem dX10_isSmallHouse_18 : decode cX10_isSmallHouse 18 = .ok (.if_icmp .ge 7, 3) := by decide +kernel
theorem dX10_isSmallHouse_21 : decode cX10_isSmallHouse 21 = .ok (.iconst 1, 1) := by decide +kernel
theorem dX10_isSmallHouse_22 : decode cX10_isSmallHouse 22 = .ok (.goto 4, 3) := by decide +kernel
theorem dX10_isSmallHouse_25 : decode cX10_isSmallHouse 25 = .ok (.iconst 0, 1) := by decide +kernel
theorem dX10_isSmallHouse_26 : decode cX10_isSmallHouse 26 = .ok (.ireturn, 1) := by decide +kernel
theorem dX10_rankInTown_0 : decode cX10_rankInTown 0 = .ok (.aload_n 0, 1) := by decide +kernel
theorem dX10_rankInTown_1 : decode cX10_rankInTown 1 = .ok (.getfield 12, 3) := by decide +kernel
theorem dX10_rankInTown_4 : decode cX10_rankInTown 4 = .ok (.iload_n 1, 1) := by decide +kernel
theorem dX10_rankInTown_5 : decode cX10_rankInTown 5 = .ok (.invokevirtual 116, 3) := by decide +kernel
theorem dX10_rankInTown_8 : decode cX10_rankInTown 8 = .ok (.astore_n 2, 1) := by decide +kernel
theorem dX10_rankInTown_9 : decode cX10_rankInTown 9 = .ok (.aload_n 0, 1) := by decide +kernel
theorem dX10_rankInTown_10 : decode cX10_rankInTown 10 = .ok (.getfield 12, 3) := by decide +kernel
theorem dX10_rankInTown_13 : decode cX10_rankInTown 13 = .ok (.iload_n 1, 1) := by decide +kernel
theorem dX10_rankInTown_14 : decode cX10_rankInTown 14 = .ok (.invokevirtual 410, 3) := by decide +kernel
theorem dX10_rankInTown_17 : decode cX10_rankInTown 17 = .ok (.astore_n 3, 1) := by decide +kernel
theorem dX10_rankInTown_18 : decode cX10_rankInTown 18 = .ok (.aload_n 2, 1) := by decide +kernel
theorem dX10_rankInTown_19 : decode cX10_rankInTown 19 = .ok (.ifnull 7, 3) := by decide +kernel
theorem dX10_rankInTown_22 : decode cX10_rankInTown 22 = .ok (.aload_n 3, 1) := by decide +kernel
theorem dX10_rankInTown_23 : decode cX10_rankInTown 23 = .ok (.ifnonnull 5, 3) := by decide +kernel
theorem dX10_rankInTown_26 : decode cX10_rankInTown 26 = .ok (.iconst 0, 1) := by decide +kernel
theorem dX10_rankInTown_27 : decode cX10_rankInTown 27 = .ok (.ireturn, 1) := by decide +kernel
theorem dX10_rankInTown_28 : decode cX10_rankInTown 28 = .ok (.iconst 0, 1) := by decide +kernel
theorem dX10_rankInTown_29 : decode cX10_rankInTown 29 = .ok (.istore 4, 2) := by decide +kernel
theorem dX10_rankInTown_31 : decode cX10_rankInTown 31 = .ok (.iconst 0, 1) := by decide +kernel
theorem dX10_rankInTown_32 : decode cX10_rankInTown 32 = .ok (.istore 5, 2) := by decide +kernel
theorem dX10_rankInTown_34 : decode cX10_rankInTown 34 = .ok (.iload 5, 2) := by decide +kernel
theorem dX10_rankInTown_36 : decode cX10_rankInTown 36 = .ok (.aload_n 0, 1) := by decide +kernel
theorem dX10_rankInTown_37 : decode cX10_rankInTown 37 = .ok (.getfield 12, 3) := by decide +kernel
theorem dX10_rankInTown_40 : decode cX10_rankInTown 40 = .ok (.getfield 224, 3) := by decide +kernel
theorem dX10_rankInTown_43 : decode cX10_rankInTown 43 = .ok (.if_icmp .ge 87, 3) := by decide +kernel
theorem dX10_rankInTown_46 : decode cX10_rankInTown 46 = .ok (.aload_n 0, 1) := by decide +kernel
theorem dX10_rankInTown_47 : decode cX10_rankInTown 47 = .ok (.getfield 12, 3) := by decide +kernel
theorem dX10_rankInTown_50 : decode cX10_rankInTown 50 = .ok (.iload 5, 2) := by decide +kernel
theorem dX10_rankInTown_52 : decode cX10_rankInTown 52 = .ok (.invokevirtual 116, 3) := by decide +kernel
theorem dX10_rankInTown_55 : decode cX10_rankInTown 55 = .ok (.astore 6, 2) := by decide +kernel
theorem dX10_rankInTown_57 : decode cX10_rankInTown 57 = .ok (.aload_n 0, 1) := by decide +kernel
theorem dX10_rankInTown_58 : decode cX10_rankInTown 58 = .ok (.getfield 12, 3) := by decide +kernel
theorem dX10_rankInTown_61 : decode cX10_rankInTown 61 = .ok (.iload 5, 2) := by decide +kernel
theorem dX10_rankInTown_63 : decode cX10_rankInTown 63 = .ok (.invokevirtual 410, 3) := by decide +kernel
theorem dX10_rankInTown_66 : decode cX10_rankInTown 66 = .ok (.astore 7, 2) := by decide +kernel
theorem dX10_rankInTown_68 : decode cX10_rankInTown 68 = .ok (.aload 6, 2) := by decide +kernel
theorem dX10_rankInTown_70 : decode cX10_rankInTown 70 = .ok (.ifnull 54, 3) := by decide +kernel
theorem dX10_rankInTown_73 : decode cX10_rankInTown 73 = .ok (.aload 7, 2) := by decide +kernel
theorem dX10_rankInTown_75 : decode cX10_rankInTown 75 = .ok (.ifnull 49, 3) := by decide +kernel
theorem dX10_rankInTown_78 : decode cX10_rankInTown 78 = .ok (.aload 6, 2) := by decide +kernel
theorem dX10_rankInTown_80 : decode cX10_rankInTown 80 = .ok (.getfield 339, 3) := by decide +kernel
theorem dX10_rankInTown_83 : decode cX10_rankInTown 83 = .ok (.aload_n 2, 1) := by decide +kernel
theorem dX10_rankInTown_84 : decode cX10_rankInTown 84 = .ok (.getfield 339, 3) := by decide +kernel
theorem dX10_rankInTown_87 : decode cX10_rankInTown 87 = .ok (.if_icmp .eq 6, 3) := by decide +kernel
theorem dX10_rankInTown_90 : decode cX10_rankInTown 90 = .ok (.goto 34, 3) := by decide +kernel
theorem dX10_rankInTown_93 : decode cX10_rankInTown 93 = .ok (.aload 7, 2) := by decide +kernel
theorem dX10_rankInTown_95 : decode cX10_rankInTown 95 = .ok (.invokevirtual 191, 3) := by decide +kernel
theorem dX10_rankInTown_98 : decode cX10_rankInTown 98 = .ok (.aload_n 3, 1) := by decide +kernel
theorem dX10_rankInTown_99 : decode cX10_rankInTown 99 = .ok (.invokevirtual 191, 3) := by decide +kernel
theorem dX10_rankInTown_102 : decode cX10_rankInTown 102 = .ok (.isub, 1) := by decide +kernel
theorem dX10_rankInTown_103 : decode cX10_rankInTown 103 = .ok (.istore 8, 2) := by decide +kernel
theorem dX10_rankInTown_105 : decode cX10_rankInTown 105 = .ok (.iload 8, 2) := by decide +kernel
theorem dX10_rankInTown_107 : decode cX10_rankInTown 107 = .ok (.ifCond .gt 14, 3) := by decide +kernel
theorem dX10_rankInTown_110 : decode cX10_rankInTown 110 = .ok (.iload 8, 2) := by decide +kernel
theorem dX10_rankInTown_112 : decode cX10_rankInTown 112 = .ok (.ifCond .ne 12, 3) := by decide +kernel
theorem dX10_rankInTown_115 : decode cX10_rankInTown 115 = .ok (.iload 5, 2) := by decide +kernel
theorem dX10_rankInTown_117 : decode cX10_rankInTown 117 = .ok (.iload_n 1, 1) := by decide +kernel
theorem dX10_rankInTown_118 : decode cX10_rankInTown 118 = .ok (.if_icmp .ge 6, 3) := by decide +kernel
theorem dX10_rankInTown_121 : decode cX10_rankInTown 121 = .ok (.iinc 4 1, 3) := by decide +kernel
theorem dX10_rankInTown_124 : decode cX10_rankInTown 124 = .ok (.iinc 5 1, 3) := by decide +kernel
theorem dX10_rankInTown_127 : decode cX10_rankInTown 127 = .ok (.goto (-93), 3) := by decide +kernel
theorem dX10_rankInTown_130 : decode cX10_rankInTown 130 = .ok (.iload 4, 2) := by decide +kernel
theorem dX10_rankInTown_132 : decode cX10_rankInTown 132 = .ok (.ireturn, 1) := by decide +kernel
theorem dX10_nextClash_0 : decode cX10_nextClash 0 = .ok (.iload_n 2, 1) := by decide +kernel
theorem dX10_nextClash_1 : decode cX10_nextClash 1 = .ok (.sipush 200, 3) := by decide +kernel
theorem dX10_nextClash_4 : decode cX10_nextClash 4 = .ok (.idiv, 1) := by decide +kernel
theorem dX10_nextClash_5 : decode cX10_nextClash 5 = .ok (.istore_n 3, 1) := by decide +kernel
theorem dX10_nextClash_6 : decode cX10_nextClash 6 = .ok (.iload_n 3, 1) := by decide +kernel
theorem dX10_nextClash_7 : decode cX10_nextClash 7 = .ok (.istore 4, 2) := by decide +kernel
theorem dX10_nextClash_9 : decode cX10_nextClash 9 = .ok (.iload 4, 2) := by decide +kernel
theorem dX10_nextClash_11 : decode cX10_nextClash 11 = .ok (.aload_n 0, 1) := by decide +kernel
theorem dX10_nextClash_12 : decode cX10_nextClash 12 = .ok (.getfield 12, 3) := by decide +kernel
theorem dX10_nextClash_15 : decode cX10_nextClash 15 = .ok (.getfield 224, 3) := by decide +kernel
theorem dX10_nextClash_18 : decode cX10_nextClash 18 = .ok (.if_icmp .ge 73, 3) := by decide +kernel
theorem dX10_nextClash_21 : decode cX10_nextClash 21 = .ok (.iload 4, 2) := by decide +kernel
theorem dX10_nextClash_23 : decode cX10_nextClash 23 = .ok (.iload_n 3, 1) := by decide +kernel
theorem dX10_nextClash_24 : decode cX10_nextClash 24 = .ok (.if_icmp .ne 11, 3) := by decide +kernel
theorem dX10_nextClash_27 : decode cX10_nextClash 27 = .ok (.iload_n 2, 1) := by decide +kernel
theorem dX10_nextClash_28 : decode cX10_nextClash 28 = .ok (.sipush 200, 3) := by decide +kernel
theorem dX10_nextClash_31 : decode cX10_nextClash 31 = .ok (.irem, 1) := by decide +kernel
theorem dX10_nextClash_32 : decode cX10_nextClash 32 = .ok (.goto 5, 3) := by decide +kernel
theorem dX10_nextClash_35 : decode cX10_nextClash 35 = .ok (.iload 4, 2) := by decide +kernel
theorem dX10_nextClash_37 : decode cX10_nextClash 37 = .ok (.istore 5, 2) := by decide +kernel
theorem dX10_nextClash_39 : decode cX10_nextClash 39 = .ok (.iload 5, 2) := by decide +kernel
theorem dX10_nextClash_41 : decode cX10_nextClash 41 = .ok (.iconst 1, 1) := by decide +kernel
theorem dX10_nextClash_42 : decode cX10_nextClash 42 = .ok (.iadd, 1) := by decide +kernel
theorem dX10_nextClash_43 : decode cX10_nextClash 43 = .ok (.istore 6, 2) := by decide +kernel
theorem dX10_nextClash_45 : decode cX10_nextClash 45 = .ok (.iload 6, 2) := by decide +kernel
theorem dX10_nextClash_47 : decode cX10_nextClash 47 = .ok (.aload_n 0, 1) := by decide +kernel
theorem dX10_nextClash_48 : decode cX10_nextClash 48 = .ok (.getfield 12, 3) := by decide +kernel
theorem dX10_nextClash_51 : decode cX10_nextClash 51 = .ok (.getfield 224, 3) := by decide +kernel
theorem dX10_nextClash_54 : decode cX10_nextClash 54 = .ok (.if_icmp .ge 31, 3) := by decide +kernel
theorem dX10_nextClash_57 : decode cX10_nextClash 57 = .ok (.aload_n 0, 1) := by decide +kernel
theorem dX10_nextClash_58 : decode cX10_nextClash 58 = .ok (.iload 4, 2) := by decide +kernel
theorem dX10_nextClash_60 : decode cX10_nextClash 60 = .ok (.iload 6, 2) := by decide +kernel
theorem dX10_nextClash_62 : decode cX10_nextClash 62 = .ok (.iload_n 1, 1) := by decide +kernel
theorem dX10_nextClash_63 : decode cX10_nextClash 63 = .ok (.invokevirtual 413, 3) := by decide +kernel
theorem dX10_nextClash_66 : decode cX10_nextClash 66 = .ok (.ifCond .eq 13, 3) := by decide +kernel
theorem dX10_nextClash_69 : decode cX10_nextClash 69 = .ok (.iload 4, 2) := by decide +kernel
theorem dX10_nextClash_71 : decode cX10_nextClash 71 = .ok (.sipush 200, 3) := by decide +kernel
theorem dX10_nextClash_74 : decode cX10_nextClash 74 = .ok (.imul, 1) := by decide +kernel
theorem dX10_nextClash_75 : decode cX10_nextClash 75 = .ok (.iload 6, 2) := by decide +kernel
theorem dX10_nextClash_77 : decode cX10_nextClash 77 = .ok (.iadd, 1) := by decide +kernel
theorem dX10_nextClash_78 : decode cX10_nextClash 78 = .ok (.ireturn, 1) := by decide +kernel
theorem dX10_nextClash_79 : decode cX10_nextClash 79 = .ok (.iinc 6 1, 3) := by decide +kernel
theorem dX10_nextClash_82 : decode cX10_nextClash 82 = .ok (.goto (-37), 3) := by decide +kernel
theorem dX10_nextClash_85 : decode cX10_nextClash 85 = .ok (.iinc 4 1, 3) := by decide +kernel
theorem dX10_nextClash_88 : decode cX10_nextClash 88 = .ok (.goto (-79), 3) := by decide +kernel
theorem dX10_nextClash_91 : decode cX10_nextClash 91 = .ok (.iconst (-1), 1) := by decide +kernel
theorem dX10_nextClash_92 : decode cX10_nextClash 92 = .ok (.ireturn, 1) := by decide +kernel
theorem dX10_isClash_0 : decode cX10_isClash 0 = .ok (.aload_n 0, 1) := by decide +kernel
theorem dX10_isClash_1 : decode cX10_isClash 1 = .ok (.getfield 12, 3) := by decide +kernel
theorem dX10_isClash_4 : decode cX10_isClash 4 = .ok (.iload_n 1, 1) := by decide +kernel
theorem dX10_isClash_5 : decode cX10_isClash 5 = .ok (.invokevirtual 116, 3) := by decide +kernel
theorem dX10_isClash_8 : decode cX10_isClash 8 = .ok (.astore 4, 2) := by decide +kernel
theorem dX10_isClash_10 : decode cX10_isClash 10 = .ok (.aload_n 0, 1) := by decide +kernel
theorem dX10_isClash_11 : decode cX10_isClash 11 = .ok (.getfield 12, 3) := by decide +kernel
theorem dX10_isClash_14 : decode cX10_isClash 14 = .ok (.iload_n 2, 1) := by decide +kernel
theorem dX10_isClash_15 : decode cX10_isClash 15 = .ok (.invokevirtual 116, 3) := by decide +kernel
theorem dX10_isClash_18 : decode cX10_isClash 18 = .ok (.astore 5, 2) := by decide +kernel
theorem dX10_isClash_20 : decode cX10_isClash 20 = .ok (.aload_n 0, 1) := by decide +kernel
theorem dX10_isClash_21 : decode cX10_isClash 21 = .ok (.getfield 12, 3) := by decide +kernel
theorem dX10_isClash_24 : decode cX10_isClash 24 = .ok (.iload_n 1, 1) := by decide +kernel
theorem dX10_isClash_25 : decode cX10_isClash 25 = .ok (.invokevirtual 240, 3) := by decide +kernel
theorem dX10_isClash_28 : decode cX10_isClash 28 = .ok (.astore 6, 2) := by decide +kernel
theorem dX10_isClash_30 : decode cX10_isClash 30 = .ok (.aload_n 0, 1) := by decide +kernel
theorem dX10_isClash_31 : decode cX10_isClash 31 = .ok (.getfield 12, 3) := by decide +kernel
theorem dX10_isClash_34 : decode cX10_isClash 34 = .ok (.iload_n 2, 1) := by decide +kernel
theorem dX10_isClash_35 : decode cX10_isClash 35 = .ok (.invokevirtual 240, 3) := by decide +kernel
theorem dX10_isClash_38 : decode cX10_isClash 38 = .ok (.astore 7, 2) := by decide +kernel
theorem dX10_isClash_40 : decode cX10_isClash 40 = .ok (.aload 4, 2) := by decide +kernel
theorem dX10_isClash_42 : decode cX10_isClash 42 = .ok (.ifnull 18, 3) := by decide +kernel
theorem dX10_isClash_45 : decode cX10_isClash 45 = .ok (.aload 5, 2) := by decide +kernel
theorem dX10_isClash_47 : decode cX10_isClash 47 = .ok (.ifnull 13, 3) := by decide +kernel
theorem dX10_isClash_50 : decode cX10_isClash 50 = .ok (.aload 6, 2) := by decide +kernel
theorem dX10_isClash_52 : decode cX10_isClash 52 = .ok (.ifnull 8, 3) := by decide +kernel
theorem dX10_isClash_55 : decode cX10_isClash 55 = .ok (.aload 7, 2) := by decide +kernel
theorem dX10_isClash_57 : decode cX10_isClash 57 = .ok (.ifnonnull 5, 3) := by decide +kernel
theorem dX10_isClash_60 : decode cX10_isClash 60 = .ok (.iconst 0, 1) := by decide +kernel
theorem dX10_isClash_61 : decode cX10_isClash 61 = .ok (.ireturn, 1) := by decide +kernel
theorem dX10_isClash_62 : decode cX10_isClash 62 = .ok (.aload 4, 2) := by decide +kernel
theorem dX10_isClash_64 : decode cX10_isClash 64 = .ok (.getfield 336, 3) := by decide +kernel
theorem dX10_isClash_67 : decode cX10_isClash 67 = .ok (.aload 5, 2) := by decide +kernel
theorem dX10_isClash_69 : decode cX10_isClash 69 = .ok (.getfield 336, 3) := by decide +kernel
theorem dX10_isClash_72 : decode cX10_isClash 72 = .ok (.iadd, 1) := by decide +kernel
theorem dX10_isClash_73 : decode cX10_isClash 73 = .ok (.iconst 2, 1) := by decide +kernel
theorem dX10_isClash_74 : decode cX10_isClash 74 = .ok (.iload_n 3, 1) := by decide +kernel
theorem dX10_isClash_75 : decode cX10_isClash 75 = .ok (.imul, 1) := by decide +kernel
theorem dX10_isClash_76 : decode cX10_isClash 76 = .ok (.iadd, 1) := by decide +kernel
theorem dX10_isClash_77 : decode cX10_isClash 77 = .ok (.istore 8, 2) := by decide +kernel
theorem dX10_isClash_79 : decode cX10_isClash 79 = .ok (.aload_n 0, 1) := by decide +kernel
theorem dX10_isClash_80 : decode cX10_isClash 80 = .ok (.getfield 33, 3) := by decide +kernel
theorem dX10_isClash_83 : decode cX10_isClash 83 = .ok (.aload 6, 2) := by decide +kernel
theorem dX10_isClash_85 : decode cX10_isClash 85 = .ok (.invokevirtual 184, 3) := by decide +kernel
theorem dX10_isClash_88 : decode cX10_isClash 88 = .ok (.aload_n 0, 1) := by decide +kernel
theorem dX10_isClash_89 : decode cX10_isClash 89 = .ok (.getfield 37, 3) := by decide +kernel
theorem dX10_isClash_92 : decode cX10_isClash 92 = .ok (.aload 7, 2) := by decide +kernel
theorem dX10_isClash_94 : decode cX10_isClash 94 = .ok (.invokevirtual 184, 3) := by decide +kernel
theorem dX10_isClash_97 : decode cX10_isClash 97 = .ok (.iconst 4, 1) := by decide +kernel
theorem dX10_isClash_98 : decode cX10_isClash 98 = .ok (.aload_n 0, 1) := by decide +kernel
theorem dX10_isClash_99 : decode cX10_isClash 99 = .ok (.getfield 33, 3) := by decide +kernel
theorem dX10_isClash_102 : decode cX10_isClash 102 = .ok (.aload_n 0, 1) := by decide +kernel
theorem dX10_isClash_103 : decode cX10_isClash 103 = .ok (.getfield 37, 3) := by decide +kernel
theorem dX10_isClash_106 : decode cX10_isClash 106 = .ok (.invokevirtual 416, 3) := by decide +kernel
theorem dX10_isClash_109 : decode cX10_isClash 109 = .ok (.imul, 1) := by decide +kernel
theorem dX10_isClash_110 : decode cX10_isClash 110 = .ok (.iload 8, 2) := by decide +kernel
theorem dX10_isClash_112 : decode cX10_isClash 112 = .ok (.iload 8, 2) := by decide +kernel
theorem dX10_isClash_114 : decode cX10_isClash 114 = .ok (.imul, 1) := by decide +kernel
theorem dX10_isClash_115 : decode cX10_isClash 115 = .ok (.if_icmp .lt 5, 3) := by decide +kernel
theorem dX10_isClash_118 : decode cX10_isClash 118 = .ok (.iconst 0, 1) := by decide +kernel
theorem dX10_isClash_119 : decode cX10_isClash 119 = .ok (.ireturn, 1) := by decide +kernel
theorem dX10_isClash_120 : decode cX10_isClash 120 = .ok (.aload_n 0, 1) := by decide +kernel
theorem dX10_isClash_121 : decode cX10_isClash 121 = .ok (.getfield 43, 3) := by decide +kernel
theorem dX10_isClash_124 : decode cX10_isClash 124 = .ok (.aload 6, 2) := by decide +kernel
theorem dX10_isClash_126 : decode cX10_isClash 126 = .ok (.aload 7, 2) := by decide +kernel
theorem dX10_isClash_128 : decode cX10_isClash 128 = .ok (.invokevirtual 202, 3) := by decide +kernel
theorem dX10_isClash_131 : decode cX10_isClash 131 = .ok (.aload_n 0, 1) := by decide +kernel
theorem dX10_isClash_132 : decode cX10_isClash 132 = .ok (.getfield 43, 3) := by decide +kernel
theorem dX10_isClash_135 : decode cX10_isClash 135 = .ok (.getfield 323, 3) := by decide +kernel
theorem dX10_isClash_138 : decode cX10_isClash 138 = .ok (.lconst 0, 1) := by decide +kernel
theorem dX10_isClash_139 : decode cX10_isClash 139 = .ok (.lcmp, 1) := by decide +kernel
theorem dX10_isClash_140 : decode cX10_isClash 140 = .ok (.ifCond .le 19, 3) := by decide +kernel
theorem dX10_isClash_143 : decode cX10_isClash 143 = .ok (.aload_n 0, 1) := by decide +kernel
theorem dX10_isClash_144 : decode cX10_isClash 144 = .ok (.getfield 43, 3) := by decide +kernel
theorem dX10_isClash_147 : decode cX10_isClash 147 = .ok (.iload 8, 2) := by decide +kernel
theorem dX10_isClash_149 : decode cX10_isClash 149 = .ok (.invokevirtual 420, 3) := by decide +kernel
theorem dX10_isClash_152 : decode cX10_isClash 152 = .ok (.ifCond .eq 7, 3) := by decide +kernel
theorem dX10_isClash_155 : decode cX10_isClash 155 = .ok (.iconst 1, 1) := by decide +kernel
theorem dX10_isClash_156 : decode cX10_isClash 156 = .ok (.goto 4, 3) := by decide +kernel
theorem dX10_isClash_159 : decode cX10_isClash 159 = .ok (.iconst 0, 1) := by decide +kernel
theorem dX10_isClash_160 : decode cX10_isClash 160 = .ok (.ireturn, 1) := by decide +kernel
theorem dX11_init_0 : decode cX11_init 0 = .ok (.aload_n 0, 1) := by decide +kernel
theorem dX11_init_1 : decode cX11_init 1 = .ok (.invokespecial 1, 3) := by decide +kernel
theorem dX11_init_4 : decode cX11_init 4 = .ok (.aload_n 0, 1) := by decide +kernel
theorem dX11_init_5 : decode cX11_init 5 = .ok (.sipush 201, 3) := by decide +kernel
theorem dX11_init_8 : decode cX11_init 8 = .ok (.newarray .int, 2) := by decide +kernel
theorem dX11_init_10 : decode cX11_init 10 = .ok (.putfield 7, 3) := by decide +kernel
theorem dX11_init_13 : decode cX11_init 13 = .ok (.aload_n 0, 1) := by decide +kernel
theorem dX11_init_14 : decode cX11_init 14 = .ok (.sipush 201, 3) := by decide +kernel
theorem dX11_init_17 : decode cX11_init 17 = .ok (.newarray .int, 2) := by decide +kernel
theorem dX11_init_19 : decode cX11_init 19 = .ok (.putfield 13, 3) := by decide +kernel
theorem dX11_init_22 : decode cX11_init 22 = .ok (.aload_n 0, 1) := by decide +kernel
theorem dX11_init_23 : decode cX11_init 23 = .ok (.sipush 201, 3) := by decide +kernel
theorem dX11_init_26 : decode cX11_init 26 = .ok (.newarray .int, 2) := by decide +kernel
theorem dX11_init_28 : decode cX11_init 28 = .ok (.putfield 16, 3) := by decide +kernel
theorem dX11_init_31 : decode cX11_init 31 = .ok (.aload_n 0, 1) := by decide +kernel
theorem dX11_init_32 : decode cX11_init 32 = .ok (.sipush 201, 3) := by decide +kernel
theorem dX11_init_35 : decode cX11_init 35 = .ok (.newarray .int, 2) := by decide +kernel
theorem dX11_init_37 : decode cX11_init 37 = .ok (.putfield 19, 3) := by decide +kernel
theorem dX11_init_40 : decode cX11_init 40 = .ok (.aload_n 0, 1) := by decide +kernel
theorem dX11_init_41 : decode cX11_init 41 = .ok (.sipush 201, 3) := by decide +kernel
theorem dX11_init_44 : decode cX11_init 44 = .ok (.newarray .int, 2) := by decide +kernel
theorem dX11_init_46 : decode cX11_init 46 = .ok (.putfield 22, 3) := by decide +kernel
theorem dX11_init_49 : decode cX11_init 49 = .ok (.aload_n 0, 1) := by decide +kernel
theorem dX11_init_50 : decode cX11_init 50 = .ok (.sipush 201, 3) := by decide +kernel
theorem dX11_init_53 : decode cX11_init 53 = .ok (.newarray .boolean, 2) := by decide +kernel
theorem dX11_init_55 : decode cX11_init 55 = .ok (.putfield 25, 3) := by decide +kernel
theorem dX11_init_58 : decode cX11_init 58 = .ok (.aload_n 0, 1) := by decide +kernel
theorem dX11_init_59 : decode cX11_init 59 = .ok (.sipush 201, 3) := by decide +kernel
theorem dX11_init_62 : decode cX11_init 62 = .ok (.newarray .int, 2) := by decide +kernel
theorem dX11_init_64 : decode cX11_init 64 = .ok (.putfield 29, 3) := by decide +kernel
theorem dX11_init_67 : decode cX11_init 67 = .ok (.aload_n 0, 1) := by decide +kernel
theorem dX11_init_68 : decode cX11_init 68 = .ok (.sipush 201, 3) := by decide +kernel
theorem dX11_init_71 : decode cX11_init 71 = .ok (.newarray .int, 2) := by decide +kernel
theorem dX11_init_73 : decode cX11_init 73 = .ok (.putfield 32, 3) := by decide +kernel
theorem dX11_init_76 : decode cX11_init 76 = .ok (.aload_n 0, 1) := by decide +kernel
theorem dX11_init_77 : decode cX11_init 77 = .ok (.sipush 201, 3) := by decide +kernel
theorem dX11_init_80 : decode cX11_init 80 = .ok (.newarray .int, 2) := by decide +kernel
theorem dX11_init_82 : decode cX11_init 82 = .ok (.putfield 35, 3) := by decide +kernel
theorem dX11_init_85 : decode cX11_init 85 = .ok (.aload_n 0, 1) := by decide +kernel
theorem dX11_init_86 : decode cX11_init 86 = .ok (.sipush 201, 3) := by decide +kernel
theorem dX11_init_89 : decode cX11_init 89 = .ok (.newarray .int, 2) := by decide +kernel
theorem dX11_init_91 : decode cX11_init 91 = .ok (.putfield 38, 3) := by decide +kernel
theorem dX11_init_94 : decode cX11_init 94 = .ok (.aload_n 0, 1) := by decide +kernel
theorem dX11_init_95 : decode cX11_init 95 = .ok (.sipush 201, 3) := by decide +kernel
theorem dX11_init_98 : decode cX11_init 98 = .ok (.newarray .int, 2) := by decide +kernel
theorem dX11_init_100 : decode cX11_init 100 = .ok (.putfield 41, 3) := by decide +kernel
theorem dX11_init_103 : decode cX11_init 103 = .ok (.aload_n 0, 1) := by decide +kernel
theorem dX11_init_104 : decode cX11_init 104 = .ok (.sipush 8040, 3) := by decide +kernel
theorem dX11_init_107 : decode cX11_init 107 = .ok (.newarray .int, 2) := by decide +kernel
theorem dX11_init_109 : decode cX11_init 109 = .ok (.putfield 44, 3) := by decide +kernel
theorem dX11_init_112 : decode cX11_init 112 = .ok (.aload_n 0, 1) := by decide +kernel
theorem dX11_init_113 : decode cX11_init 113 = .ok (.sipush 8040, 3) := by decide +kernel
theorem dX11_init_116 : decode cX11_init 116 = .ok (.newarray .int, 2) := by decide +kernel
theorem dX11_init_118 : decode cX11_init 118 = .ok (.putfield 47, 3) := by decide +kernel
theorem dX11_init_121 : decode cX11_init 121 = .ok (.aload_n 0, 1) := by decide +kernel
theorem dX11_init_122 : decode cX11_init 122 = .ok (.sipush 514, 3) := by decide +kernel
theorem dX11_init_125 : decode cX11_init 125 = .ok (.newarray .int, 2) := by decide +kernel
theorem dX11_init_127 : decode cX11_init 127 = .ok (.putfield 50, 3) := by decide +kernel
theorem dX11_init_130 : decode cX11_init 130 = .ok (.aload_n 0, 1) := by decide +kernel
theorem dX11_init_131 : decode cX11_init 131 = .ok (.sipush 514, 3) := by decide +kernel
theorem dX11_init_134 : decode cX11_init 134 = .ok (.newarray .int, 2) := by decide +kernel
theorem dX11_init_136 : decode cX11_init 136 = .ok (.putfield 53, 3) := by decide +kernel
theorem dX11_init_139 : decode cX11_init 139 = .ok (.aload_n 0, 1) := by decide +kernel
theorem dX11_init_140 : decode cX11_init 140 = .ok (.sipush 514, 3) := by decide +kernel
theorem dX11_init_143 : decode cX11_init 143 = .ok (.newarray .int, 2) := by decide +kernel
theorem dX11_init_145 : decode cX11_init 145 = .ok (.putfield 56, 3) := by decide +kernel
theorem dX11_init_148 : decode cX11_init 148 = .ok (.aload_n 0, 1) := by decide +kernel
theorem dX11_init_149 : decode cX11_init 149 = .ok (.bipush 64, 2) := by decide +kernel
theorem dX11_init_151 : decode cX11_init 151 = .ok (.newarray .int, 2) := by decide +kernel
theorem dX11_init_153 : decode cX11_init 153 = .ok (.putfield 59, 3) := by decide +kernel
theorem dX11_init_156 : decode cX11_init 156 = .ok (.aload_n 0, 1) := by decide +kernel
theorem dX11_init_157 : decode cX11_init 157 = .ok (.bipush 64, 2) := by decide +kernel
theorem dX11_init_159 : decode cX11_init 159 = .ok (.newarray .int, 2) := by decide +kernel
theorem dX11_init_161 : decode cX11_init 161 = .ok (.putfield 62, 3) := by decide +kernel
theorem dX11_init_164 : decode cX11_init 164 = .ok (.aload_n 0, 1) := by decide +kernel
theorem dX11_init_165 : decode cX11_init 165 = .ok (.bipush 64, 2) := by decide +kernel
theorem dX11_init_167 : decode cX11_init 167 = .ok (.newarray .int, 2) := by decide +kernel
theorem dX11_init_169 : decode cX11_init 169 = .ok (.putfield 65, 3) := by decide +kernel
theorem dX11_init_172 : decode cX11_init 172 = .ok (.aload_n 0, 1) := by decide +kernel
theorem dX11_init_173 : decode cX11_init 173 = .ok (.bipush 64, 2) := by decide +kernel
theorem dX11_init_175 : decode cX11_init 175 = .ok (.newarray .int, 2) := by decide +kernel
theorem dX11_init_177 : decode cX11_init 177 = .ok (.putfield 68, 3) := by decide +kernel
theorem dX11_init_180 : decode cX11_init 180 = .ok (.aload_n 0, 1) := by decide +kernel
theorem dX11_init_181 : decode cX11_init 181 = .ok (.sipush 516, 3) := by decide +kernel
theorem dX11_init_184 : decode cX11_init 184 = .ok (.newarray .int, 2) := by decide +kernel
theorem dX11_init_186 : decode cX11_init 186 = .ok (.putfield 71, 3) := by decide +kernel
theorem dX11_init_189 : decode cX11_init 189 = .ok (.aload_n 0, 1) := by decide +kernel
theorem dX11_init_190 : decode cX11_init 190 = .ok (.sipush 4096, 3) := by decide +kernel
theorem dX11_init_193 : decode cX11_init 193 = .ok (.newarray .int, 2) := by decide +kernel
theorem dX11_init_195 : decode cX11_init 195 = .ok (.putfield 74, 3) := by decide +kernel
theorem dX11_init_198 : decode cX11_init 198 = .ok (.aload_n 0, 1) := by decide +kernel
theorem dX11_init_199 : decode cX11_init 199 = .ok (.bipush 42, 2) := by decide +kernel
theorem dX11_init_201 : decode cX11_init 201 = .ok (.newarray .int, 2) := by decide +kernel
theorem dX11_init_203 : decode cX11_init 203 = .ok (.putfield 77, 3) := by decide +kernel
theorem dX11_init_206 : decode cX11_init 206 = .ok (.aload_n 0, 1) := by decide +kernel
theorem dX11_init_207 : decode cX11_init 207 = .ok (.bipush 42, 2) := by decide +kernel
theorem dX11_init_209 : decode cX11_init 209 = .ok (.newarray .int, 2) := by decide +kernel
theorem dX11_init_211 : decode cX11_init 211 = .ok (.putfield 80, 3) := by decide +kernel
theorem dX11_init_214 : decode cX11_init 214 = .ok (.aload_n 0, 1) := by decide +kernel
theorem dX11_init_215 : decode cX11_init 215 = .ok (.bipush 8, 2) := by decide +kernel
theorem dX11_init_217 : decode cX11_init 217 = .ok (.newarray .int, 2) := by decide +kernel
theorem dX11_init_219 : decode cX11_init 219 = .ok (.putfield 83, 3) := by decide +kernel
theorem dX11_init_222 : decode cX11_init 222 = .ok (.aload_n 0, 1) := by decide +kernel
theorem dX11_init_223 : decode cX11_init 223 = .ok (.bipush 42, 2) := by decide +kernel
theorem dX11_init_225 : decode cX11_init 225 = .ok (.newarray .int, 2) := by decide +kernel
theorem dX11_init_227 : decode cX11_init 227 = .ok (.putfield 86, 3) := by decide +kernel
theorem dX11_init_230 : decode cX11_init 230 = .ok (.aload_n 0, 1) := by decide +kernel
theorem dX11_init_231 : decode cX11_init 231 = .ok (.bipush 42, 2) := by decide +kernel
theorem dX11_init_233 : decode cX11_init 233 = .ok (.newarray .int, 2) := by decide +kernel
theorem dX11_init_235 : decode cX11_init 235 = .ok (.putfield 89, 3) := by decide +kernel
theorem dX11_init_238 : decode cX11_init 238 = .ok (.aload_n 0, 1) := by decide +kernel
theorem dX11_init_239 : decode cX11_init 239 = .ok (.sipush 201, 3) := by decide +kernel
theorem dX11_init_242 : decode cX11_init 242 = .ok (.newarray .boolean, 2) := by decide +kernel
theorem dX11_init_244 : decode cX11_init 244 = .ok (.putfield 92, 3) := by decide +kernel
theorem dX11_init_247 : decode cX11_init 247 = .ok (.aload_n 0, 1) := by decide +kernel
theorem dX11_init_248 : decode cX11_init 248 = .ok (.sipush 201, 3) := by decide +kernel
theorem dX11_init_251 : decode cX11_init 251 = .ok (.newarray .boolean, 2) := by decide +kernel
theorem dX11_init_253 : decode cX11_init 253 = .ok (.putfield 95, 3) := by decide +kernel
theorem dX11_init_256 : decode cX11_init 256 = .ok (.aload_n 0, 1) := by decide +kernel
theorem dX11_init_257 : decode cX11_init 257 = .ok (.sipush 8040, 3) := by decide +kernel
theorem dX11_init_260 : decode cX11_init 260 = .ok (.newarray .boolean, 2) := by decide +kernel
theorem dX11_init_262 : decode cX11_init 262 = .ok (.putfield 98, 3) := by decide +kernel
theorem dX11_init_265 : decode cX11_init 265 = .ok (.aload_n 0, 1) := by decide +kernel
theorem dX11_init_266 : decode cX11_init 266 = .ok (.bipush 6, 2) := by decide +kernel
theorem dX11_init_268 : decode cX11_init 268 = .ok (.newarray .int, 2) := by decide +kernel
theorem dX11_init_270 : decode cX11_init 270 = .ok (.putfield 101, 3) := by decide +kernel
theorem dX11_init_273 : decode cX11_init 273 = .ok (.aload_n 0, 1) := by decide +kernel
theorem dX11_init_274 : decode cX11_init 274 = .ok (.bipush 40, 2) := by decide +kernel
theorem dX11_init_276 : decode cX11_init 276 = .ok (.newarray .boolean, 2) := by decide +kernel
theorem dX11_init_278 : decode cX11_init 278 = .ok (.putfield 104, 3) := by decide +kernel
theorem dX11_init_281 : decode cX11_init 281 = .ok (.aload_n 0, 1) := by decide +kernel
theorem dX11_init_282 : decode cX11_init 282 = .ok (.sipush 201, 3) := by decide +kernel
theorem dX11_init_285 : decode cX11_init 285 = .ok (.newarray .boolean, 2) := by decide +kernel
theorem dX11_init_287 : decode cX11_init 287 = .ok (.putfield 107, 3) := by decide +kernel
theorem dX11_init_290 : decode cX11_init 290 = .ok (.aload_n 0, 1) := by decide +kernel
theorem dX11_init_291 : decode cX11_init 291 = .ok (.sipush 402, 3) := by decide +kernel
theorem dX11_init_294 : decode cX11_init 294 = .ok (.newarray .int, 2) := by decide +kernel
theorem dX11_init_296 : decode cX11_init 296 = .ok (.putfield 110, 3) := by decide +kernel
theorem dX11_init_299 : decode cX11_init 299 = .ok (.aload_n 0, 1) := by decide +kernel
theorem dX11_init_300 : decode cX11_init 300 = .ok (.sipush 402, 3) := by decide +kernel
theorem dX11_init_303 : decode cX11_init 303 = .ok (.newarray .int, 2) := by decide +kernel
theorem dX11_init_305 : decode cX11_init 305 = .ok (.putfield 113, 3) := by decide +kernel
theorem dX11_init_308 : decode cX11_init 308 = .ok (.aload_n 0, 1) := by decide +kernel
theorem dX11_init_309 : decode cX11_init 309 = .ok (.sipush 402, 3) := by decide +kernel
theorem dX11_init_312 : decode cX11_init 312 = .ok (.newarray .int, 2) := by decide +kernel
theorem dX11_init_314 : decode cX11_init 314 = .ok (.putfield 116, 3) := by decide +kernel
theorem dX11_init_317 : decode cX11_init 317 = .ok (.return_, 1) := by decide +kernel
theorem dX11_refuse_0 : decode cX11_refuse 0 = .ok (.aload_n 0, 1) := by decide +kernel
theorem dX11_refuse_1 : decode cX11_refuse 1 = .ok (.iload_n 1, 1) := by decide +kernel
theorem dX11_refuse_2 : decode cX11_refuse 2 = .ok (.putfield 119, 3) := by decide +kernel
theorem dX11_refuse_5 : decode cX11_refuse 5 = .ok (.aload_n 0, 1) := by decide +kernel
theorem dX11_refuse_6 : decode cX11_refuse 6 = .ok (.dup, 1) := by decide +kernel
theorem dX11_refuse_7 : decode cX11_refuse 7 = .ok (.getfield 123, 3) := by decide +kernel
theorem dX11_refuse_10 : decode cX11_refuse 10 = .ok (.iload_n 1, 1) := by decide +kernel
theorem dX11_refuse_11 : decode cX11_refuse 11 = .ok (.bipush 7, 2) := by decide +kernel
theorem dX11_refuse_13 : decode cX11_refuse 13 = .ok (.if_icmp .ne 7, 3) := by decide +kernel
theorem dX11_refuse_16 : decode cX11_refuse 16 = .ok (.iconst 1, 1) := by decide +kernel
theorem dX11_refuse_17 : decode cX11_refuse 17 = .ok (.goto 4, 3) := by decide +kernel
theorem dX11_refuse_20 : decode cX11_refuse 20 = .ok (.iconst 0, 1) := by decide +kernel
theorem dX11_refuse_21 : decode cX11_refuse 21 = .ok (.iadd, 1) := by decide +kernel
theorem dX11_refuse_22 : decode cX11_refuse 22 = .ok (.putfield 123, 3) := by decide +kernel
theorem dX11_refuse_25 : decode cX11_refuse 25 = .ok (.iconst (-1), 1) := by decide +kernel
theorem dX11_refuse_26 : decode cX11_refuse 26 = .ok (.ireturn, 1) := by decide +kernel
theorem dX11_no_0 : decode cX11_no 0 = .ok (.aload_n 0, 1) := by decide +kernel
theorem dX11_no_1 : decode cX11_no 1 = .ok (.iload_n 1, 1) := by decide +kernel
theorem dX11_no_2 : decode cX11_no 2 = .ok (.invokevirtual 126, 3) := by decide +kernel
theorem dX11_no_5 : decode cX11_no 5 = .ok (.iconst (-1), 1) := by decide +kernel
theorem dX11_no_6 : decode cX11_no 6 = .ok (.if_icmp .eq 7, 3) := by decide +kernel
theorem dX11_no_9 : decode cX11_no 9 = .ok (.iconst 1, 1) := by decide +kernel
theorem dX11_no_10 : decode cX11_no 10 = .ok (.goto 4, 3) := by decide +kernel
theorem dX11_no_13 : decode cX11_no 13 = .ok (.iconst 0, 1) := by decide +kernel
theorem dX11_no_14 : decode cX11_no 14 = .ok (.ireturn, 1) := by decide +kernel
theorem dX11_isFeature_0 : decode cX11_isFeature 0 = .ok (.iload_n 1, 1) := by decide +kernel
theorem dX11_isFeature_1 : decode cX11_isFeature 1 = .ok (.ifCond .lt 15, 3) := by decide +kernel
theorem dX11_isFeature_4 : decode cX11_isFeature 4 = .ok (.iload_n 1, 1) := by decide +kernel
theorem dX11_isFeature_5 : decode cX11_isFeature 5 = .ok (.aload_n 0, 1) := by decide +kernel
theorem dX11_isFeature_6 : decode cX11_isFeature 6 = .ok (.getfield 130, 3) := by decide +kernel
theorem dX11_isFeature_9 : decode cX11_isFeature 9 = .ok (.if_icmp .ge 7, 3) := by decide +kernel
theorem dX11_isFeature_12 : decode cX11_isFeature 12 = .ok (.iconst 1, 1) := by decide +kernel
theorem dX11_isFeature_13 : decode cX11_isFeature 13 = .ok (.goto 4, 3) := by decide +kernel
theorem dX11_isFeature_16 : decode cX11_isFeature 16 = .ok (.iconst 0, 1) := by decide +kernel
theorem dX11_isFeature_17 : decode cX11_isFeature 17 = .ok (.ireturn, 1) := by decide +kernel
theorem dX11_is_0 : decode cX11_is 0 = .ok (.aload_n 0, 1) := by decide +kernel
theorem dX11_is_1 : decode cX11_is 1 = .ok (.iload_n 1, 1) := by decide +kernel
theorem dX11_is_2 : decode cX11_is 2 = .ok (.invokevirtual 133, 3) := by decide +kernel
theorem dX11_is_5 : decode cX11_is 5 = .ok (.ifCond .eq 26, 3) := by decide +kernel
theorem dX11_is_8 : decode cX11_is 8 = .ok (.aload_n 0, 1) := by decide +kernel
theorem dX11_is_9 : decode cX11_is 9 = .ok (.getfield 22, 3) := by decide +kernel
theorem dX11_is_12 : decode cX11_is 12 = .ok (.iload_n 1, 1) := by decide +kernel
theorem dX11_is_13 : decode cX11_is 13 = .ok (.iaload, 1) := by decide +kernel
theorem dX11_is_14 : decode cX11_is 14 = .ok (.iconst 1, 1) := by decide +kernel
theorem dX11_is_15 : decode cX11_is 15 = .ok (.if_icmp .ne 16, 3) := by decide +kernel
theorem dX11_is_18 : decode cX11_is 18 = .ok (.aload_n 0, 1) := by decide +kernel
theorem dX11_is_19 : decode cX11_is 19 = .ok (.getfield 25, 3) := by decide +kernel
theorem dX11_is_22 : decode cX11_is 22 = .ok (.iload_n 1, 1) := by decide +kernel
theorem dX11_is_23 : decode cX11_is 23 = .ok (.baload, 1) := by decide +kernel
theorem dX11_is_24 : decode cX11_is 24 = .ok (.ifCond .ne 7, 3) := by decide +kernel
theorem dX11_is_27 : decode cX11_is 27 = .ok (.iconst 1, 1) := by decide +kernel
theorem dX11_is_28 : decode cX11_is 28 = .ok (.goto 4, 3) := by decide +kernel
theorem dX11_is_31 : decode cX11_is 31 = .ok (.iconst 0, 1) := by decide +kernel
theorem dX11_is_32 : decode cX11_is 32 = .ok (.ireturn, 1) := by decide +kernel
theorem dX11_isRing_0 : decode cX11_isRing 0 = .ok (.aload_n 0, 1) := by decide +kernel
theorem dX11_isRing_1 : decode cX11_isRing 1 = .ok (.getfield 7, 3) := by decide +kernel
theorem dX11_isRing_4 : decode cX11_isRing 4 = .ok (.iload_n 1, 1) := by decide +kernel
theorem dX11_isRing_5 : decode cX11_isRing 5 = .ok (.iaload, 1) := by decide +kernel
theorem dX11_isRing_6 : decode cX11_isRing 6 = .ok (.iconst 5, 1) := by decide +kernel
theorem dX11_isRing_7 : decode cX11_isRing 7 = .ok (.if_icmp .lt 7, 3) := by decide +kernel
theorem dX11_isRing_10 : decode cX11_isRing 10 = .ok (.iconst 1, 1) := by decide +kernel
theorem dX11_isRing_11 : decode cX11_isRing 11 = .ok (.goto 4, 3) := by decide +kernel
theorem dX11_isRing_14 : decode cX11_isRing 14 = .ok (.iconst 0, 1) := by decide +kernel
theorem dX11_isRing_15 : decode cX11_isRing 15 = .ok (.ireturn, 1) := by decide +kernel
theorem dX11_take_0 : decode cX11_take 0 = .ok (.aload_n 0, 1) := by decide +kernel
theorem dX11_take_1 : decode cX11_take 1 = .ok (.aload_n 0, 1) := by decide +kernel
theorem dX11_take_2 : decode cX11_take 2 = .ok (.getfield 41, 3) := by decide +kernel
theorem dX11_take_5 : decode cX11_take 5 = .ok (.iload_n 1, 1) := by decide +kernel
theorem dX11_take_6 : decode cX11_take 6 = .ok (.iaload, 1) := by decide +kernel
theorem dX11_take_7 : decode cX11_take 7 = .ok (.putfield 137, 3) := by decide +kernel
theorem dX11_take_10 : decode cX11_take 10 = .ok (.iconst 0, 1) := by decide +kernel
theorem dX11_take_11 : decode cX11_take 11 = .ok (.istore_n 2, 1) := by decide +kernel
theorem dX11_take_12 : decode cX11_take 12 = .ok (.iload_n 2, 1) := by decide +kernel
theorem dX11_take_13 : decode cX11_take 13 = .ok (.aload_n 0, 1) := by decide +kernel
theorem dX11_take_14 : decode cX11_take 14 = .ok (.getfield 137, 3) := by decide +kernel
theorem dX11_take_17 : decode cX11_take 17 = .ok (.if_icmp .ge 43, 3) := by decide +kernel
theorem dX11_take_20 : decode cX11_take 20 = .ok (.aload_n 0, 1) := by decide +kernel
theorem dX11_take_21 : decode cX11_take 21 = .ok (.getfield 77, 3) := by decide +kernel
theorem dX11_take_24 : decode cX11_take 24 = .ok (.iload_n 2, 1) := by decide +kernel
theorem dX11_take_25 : decode cX11_take 25 = .ok (.aload_n 0, 1) := by decide +kernel
theorem dX11_take_26 : decode cX11_take 26 = .ok (.getfield 44, 3) := by decide +kernel
theorem dX11_take_29 : decode cX11_take 29 = .ok (.bipush 40, 2) := by decide +kernel
theorem dX11_take_31 : decode cX11_take 31 = .ok (.iload_n 1, 1) := by decide +kernel
theorem dX11_take_32 : decode cX11_take 32 = .ok (.imul, 1) := by decide +kernel
theorem dX11_take_33 : decode cX11_take 33 = .ok (.iload_n 2, 1) := by decide +kernel
theorem dX11_take_34 : decode cX11_take 34 = .ok (.iadd, 1) := by decide +kernel
theorem dX11_take_35 : decode cX11_take 35 = .ok (.iaload, 1) := by decide +kernel
theorem dX11_take_36 : decode cX11_take 36 = .ok (.iastore, 1) := by decide +kernel
theorem dX11_take_37 : decode cX11_take 37 = .ok (.aload_n 0, 1) := by decide +kernel
theorem dX11_take_38 : decode cX11_take 38 = .ok (.getfield 80, 3) := by decide +kernel
theorem dX11_take_41 : decode cX11_take 41 = .ok (.iload_n 2, 1) := by decide +kernel
theorem dX11_take_42 : decode cX11_take 42 = .ok (.aload_n 0, 1) := by decide +kernel
theorem dX11_take_43 : decode cX11_take 43 = .ok (.getfield 47, 3) := by decide +kernel
theorem dX11_take_46 : decode cX11_take 46 = .ok (.bipush 40, 2) := by decide +kernel
theorem dX11_take_48 : decode cX11_take 48 = .ok (.iload_n 1, 1) := by decide +kernel
theorem dX11_take_49 : decode cX11_take 49 = .ok (.imul, 1) := by decide +kernel
theorem dX11_take_50 : decode cX11_take 50 = .ok (.iload_n 2, 1) := by decide +kernel
theorem dX11_take_51 : decode cX11_take 51 = .ok (.iadd, 1) := by decide +kernel
theorem dX11_take_52 : decode cX11_take 52 = .ok (.iaload, 1) := by decide +kernel
theorem dX11_take_53 : decode cX11_take 53 = .ok (.iastore, 1) := by decide +kernel
theorem dX11_take_54 : decode cX11_take 54 = .ok (.iinc 2 1, 3) := by decide +kernel
theorem dX11_take_57 : decode cX11_take 57 = .ok (.goto (-45), 3) := by decide +kernel
theorem dX11_take_60 : decode cX11_take 60 = .ok (.return_, 1) := by decide +kernel
theorem dX11_give_0 : decode cX11_give 0 = .ok (.aload_n 0, 1) := by decide +kernel
theorem dX11_give_1 : decode cX11_give 1 = .ok (.getfield 41, 3) := by decide +kernel
theorem dX11_give_4 : decode cX11_give 4 = .ok (.iload_n 1, 1) := by decide +kernel
theorem dX11_give_5 : decode cX11_give 5 = .ok (.aload_n 0, 1) := by decide +kernel
theorem dX11_give_6 : decode cX11_give 6 = .ok (.getfield 137, 3) := by decide +kernel
theorem dX11_give_9 : decode cX11_give 9 = .ok (.iastore, 1) := by decide +kernel
theorem dX11_give_10 : decode cX11_give 10 = .ok (.iconst 0, 1) := by decide +kernel
theorem dX11_give_11 : decode cX11_give 11 = .ok (.istore_n 2, 1) := by decide +kernel
theorem dX11_give_12 : decode cX11_give 12 = .ok (.iload_n 2, 1) := by decide +kernel
theorem dX11_give_13 : decode cX11_give 13 = .ok (.aload_n 0, 1) := by decide +kernel
theorem dX11_give_14 : decode cX11_give 14 = .ok (.getfield 137, 3) := by decide +kernel
theorem dX11_give_17 : decode cX11_give 17 = .ok (.if_icmp .ge 43, 3) := by decide +kernel
theorem dX11_give_20 : decode cX11_give 20 = .ok (.aload_n 0, 1) := by decide +kernel
theorem dX11_give_21 : decode cX11_give 21 = .ok (.getfield 44, 3) := by decide +kernel
theorem dX11_give_24 : decode cX11_give 24 = .ok (.bipush 40, 2) := by decide +kernel
theorem dX11_give_26 : decode cX11_give 26 = .ok (.iload_n 1, 1) := by decide +kernel
theorem dX11_give_27 : decode cX11_give 27 = .ok (.imul, 1) := by decide +kernel
theorem dX11_give_28 : decode cX11_give 28 = .ok (.iload_n 2, 1) := by decide +kernel
theorem dX11_give_29 : decode cX11_give 29 = .ok (.iadd, 1) := by decide +kernel
theorem dX11_give_30 : decode cX11_give 30 = .ok (.aload_n 0, 1) := by decide +kernel
theorem dX11_give_31 : decode cX11_give 31 = .ok (.getfield 77, 3) := by decide +kernel
theorem dX11_give_34 : decode cX11_give 34 = .ok (.iload_n 2, 1) := by decide +kernel
theorem dX11_give_35 : decode cX11_give 35 = .ok (.iaload, 1) := by decide +kernel
theorem dX11_give_36 : decode cX11_give 36 = .ok (.iastore, 1) := by decide +kernel
theorem dX11_give_37 : decode cX11_give 37 = .ok (.aload_n 0, 1) := by decide +kernel
theorem dX11_give_38 : decode cX11_give 38 = .ok (.getfield 47, 3) := by decide +kernel
theorem dX11_give_41 : decode cX11_give 41 = .ok (.bipush 40, 2) := by decide +kernel
theorem dX11_give_43 : decode cX11_give 43 = .ok (.iload_n 1, 1) := by decide +kernel
theorem dX11_give_44 : decode cX11_give 44 = .ok (.imul, 1) := by decide +kernel
theorem dX11_give_45 : decode cX11_give 45 = .ok (.iload_n 2, 1) := by decide +kernel
theorem dX11_give_46 : decode cX11_give 46 = .ok (.iadd, 1) := by decide +kernel
theorem dX11_give_47 : decode cX11_give 47 = .ok (.aload_n 0, 1) := by decide +kernel
theorem dX11_give_48 : decode cX11_give 48 = .ok (.getfield 80, 3) := by decide +kernel
theorem dX11_give_51 : decode cX11_give 51 = .ok (.iload_n 2, 1) := by decide +kernel
theorem dX11_give_52 : decode cX11_give 52 = .ok (.iaload, 1) := by decide +kernel
theorem dX11_give_53 : decode cX11_give 53 = .ok (.iastore, 1) := by decide +kernel
theorem dX11_give_54 : decode cX11_give 54 = .ok (.iinc 2 1, 3) := by decide +kernel
theorem dX11_give_57 : decode cX11_give 57 = .ok (.goto (-45), 3) := by decide +kernel
theorem dX11_give_60 : decode cX11_give 60 = .ok (.return_, 1) := by decide +kernel
theorem dX11_cross_0 : decode cX11_cross 0 = .ok (.lload 4, 2) := by decide +kernel
theorem dX11_cross_2 : decode cX11_cross 2 = .ok (.lload_n 0, 1) := by decide +kernel
theorem dX11_cross_3 : decode cX11_cross 3 = .ok (.lsub, 1) := by decide +kernel
theorem dX11_cross_4 : decode cX11_cross 4 = .ok (.lload 10, 2) := by decide +kernel
theorem dX11_cross_6 : decode cX11_cross 6 = .ok (.lload_n 2, 1) := by decide +kernel
theorem dX11_cross_7 : decode cX11_cross 7 = .ok (.lsub, 1) := by decide +kernel
theorem dX11_cross_8 : decode cX11_cross 8 = .ok (.lmul, 1) := by decide +kernel
theorem dX11_cross_9 : decode cX11_cross 9 = .ok (.lload 6, 2) := by decide +kernel
theorem dX11_cross_11 : decode cX11_cross 11 = .ok (.lload_n 2, 1) := by decide +kernel
theorem dX11_cross_12 : decode cX11_cross 12 = .ok (.lsub, 1) := by decide +kernel
theorem dX11_cross_13 : decode cX11_cross 13 = .ok (.lload 8, 2) := by decide +kernel
theorem dX11_cross_15 : decode cX11_cross 15 = .ok (.lload_n 0, 1) := by decide +kernel
theorem dX11_cross_16 : decode cX11_cross 16 = .ok (.lsub, 1) := by decide +kernel
theorem dX11_cross_17 : decode cX11_cross 17 = .ok (.lmul, 1) := by decide +kernel
theorem dX11_cross_18 : decode cX11_cross 18 = .ok (.lsub, 1) := by decide +kernel
theorem dX11_cross_19 : decode cX11_cross 19 = .ok (.lreturn, 1) := by decide +kernel
theorem dX11_signOf_0 : decode cX11_signOf 0 = .ok (.lload_n 0, 1) := by decide +kernel
theorem dX11_signOf_1 : decode cX11_signOf 1 = .ok (.lconst 0, 1) := by decide +kernel
theorem dX11_signOf_2 : decode cX11_signOf 2 = .ok (.lcmp, 1) := by decide +kernel
theorem dX11_signOf_3 : decode cX11_signOf 3 = .ok (.ifCond .le 7, 3) := by decide +kernel
theorem dX11_signOf_6 : decode cX11_signOf 6 = .ok (.iconst 1, 1) := by decide +kernel
theorem dX11_signOf_7 : decode cX11_signOf 7 = .ok (.goto 14, 3) := by decide +kernel
theorem dX11_signOf_10 : decode cX11_signOf 10 = .ok (.lload_n 0, 1) := by decide +kernel
theorem dX11_signOf_11 : decode cX11_signOf 11 = .ok (.lconst 0, 1) := by decide +kernel
theorem dX11_signOf_12 : decode cX11_signOf 12 = .ok (.lcmp, 1) := by decide +kernel
theorem dX11_signOf_13 : decode cX11_signOf 13 = .ok (.ifCond .ge 7, 3) := by decide +kernel
theorem dX11_signOf_16 : decode cX11_signOf 16 = .ok (.iconst (-1), 1) := by decide +kernel
theorem dX11_signOf_17 : decode cX11_signOf 17 = .ok (.goto 4, 3) := by decide +kernel
theorem dX11_signOf_20 : decode cX11_signOf 20 = .ok (.iconst 0, 1) := by decide +kernel
theorem dX11_signOf_21 : decode cX11_signOf 21 = .ok (.ireturn, 1) := by decide +kernel
theorem dX11_isOn_0 : decode cX11_isOn 0 = .ok (.iload_n 0, 1) := by decide +kernel
theorem dX11_isOn_1 : decode cX11_isOn 1 = .ok (.i2l, 1) := by decide +kernel
theorem dX11_isOn_2 : decode cX11_isOn 2 = .ok (.iload_n 1, 1) := by decide +kernel
theorem dX11_isOn_3 : decode cX11_isOn 3 = .ok (.i2l, 1) := by decide +kernel
theorem dX11_isOn_4 : decode cX11_isOn 4 = .ok (.iload_n 2, 1) := by decide +kernel
theorem dX11_isOn_5 : decode cX11_isOn 5 = .ok (.i2l, 1) := by decide +kernel
theorem dX11_isOn_6 : decode cX11_isOn 6 = .ok (.iload_n 3, 1) := by decide +kernel
theorem dX11_isOn_7 : decode cX11_isOn 7 = .ok (.i2l, 1) := by decide +kernel
theorem dX11_isOn_8 : decode cX11_isOn 8 = .ok (.iload 4, 2) := by decide +kernel
theorem dX11_isOn_10 : decode cX11_isOn 10 = .ok (.i2l, 1) := by decide +kernel
theorem dX11_isOn_11 : decode cX11_isOn 11 = .ok (.iload 5, 2) := by decide +kernel
theorem dX11_isOn_13 : decode cX11_isOn 13 = .ok (.i2l, 1) := by decide +kernel
theorem dX11_isOn_14 : decode cX11_isOn 14 = .ok (.invokestatic 140, 3) := by decide +kernel
theorem dX11_isOn_17 : decode cX11_isOn 17 = .ok (.lconst 0, 1) := by decide +kernel
theorem dX11_isOn_18 : decode cX11_isOn 18 = .ok (.lcmp, 1) := by decide +kernel
theorem dX11_isOn_19 : decode cX11_isOn 19 = .ok (.ifCond .eq 5, 3) := by decide +kernel
theorem dX11_isOn_22 : decode cX11_isOn 22 = .ok (.iconst 0, 1) := by decide +kernel
theorem dX11_isOn_23 : decode cX11_isOn 23 = .ok (.ireturn, 1) := by decide +kernel
theorem dX11_isOn_24 : decode cX11_isOn 24 = .ok (.iload 4, 2) := by decide +kernel
theorem dX11_isOn_26 : decode cX11_isOn 26 = .ok (.iload_n 0, 1) := by decide +kernel
theorem dX11_isOn_27 : decode cX11_isOn 27 = .ok (.iload_n 2, 1) := by decide +kernel
theorem dX11_isOn_28 : decode cX11_isOn 28 = .ok (.invokestatic 144, 3) := by decide +kernel
theorem dX11_isOn_31 : decode cX11_isOn 31 = .ok (.if_icmp .lt 37, 3) := by decide +kernel
theorem dX11_isOn_34 : decode cX11_isOn 34 = .ok (.iload 4, 2) := by decide +kernel
theorem dX11_isOn_36 : decode cX11_isOn 36 = .ok (.iload_n 0, 1) := by decide +kernel
theorem dX11_isOn_37 : decode cX11_isOn 37 = .ok (.iload_n 2, 1) := by decide +kernel
theorem dX11_isOn_38 : decode cX11_isOn 38 = .ok (.invokestatic 150, 3) := by decide +kernel
theorem dX11_isOn_41 : decode cX11_isOn 41 = .ok (.if_icmp .gt 27, 3) := by decide +kernel
theorem dX11_isOn_44 : decode cX11_isOn 44 = .ok (.iload 5, 2) := by decide +kernel
theorem dX11_isOn_46 : decode cX11_isOn 46 = .ok (.iload_n 1, 1) := by decide +kernel
theorem dX11_isOn_47 : decode cX11_isOn 47 = .ok (.iload_n 3, 1) := by decide +kernel
theorem dX11_isOn_48 : decode cX11_isOn 48 = .ok (.invokestatic 144, 3) := by decide +kernel
theorem dX11_isOn_51 : decode cX11_isOn 51 = .ok (.if_icmp .lt 17, 3) := by decide +kernel
theorem dX11_isOn_54 : decode cX11_isOn 54 = .ok (.iload 5, 2) := by decide +kernel
theorem dX11_isOn_56 : decode cX11_isOn 56 = .ok (.iload_n 1, 1) := by decide +kernel
theorem dX11_isOn_57 : decode cX11_isOn 57 = .ok (.iload_n 3, 1) := by decide +kernel
theorem dX11_isOn_58 : decode cX11_isOn 58 = .ok (.invokestatic 150, 3) := by decide +kernel
theorem dX11_isOn_61 : decode cX11_isOn 61 = .ok (.if_icmp .gt 7, 3) := by decide +kernel
theorem dX11_isOn_64 : decode cX11_isOn 64 = .ok (.iconst 1, 1) := by decide +kernel
theorem dX11_isOn_65 : decode cX11_isOn 65 = .ok (.goto 4, 3) := by decide +kernel
theorem dX11_isOn_68 : decode cX11_isOn 68 = .ok (.iconst 0, 1) := by decide +kernel
theorem dX11_isOn_69 : decode cX11_isOn 69 = .ok (.ireturn, 1) := by decide +kernel
theorem dX11_touch_0 : decode cX11_touch 0 = .ok (.aload_n 0, 1) := by decide +kernel
theorem dX11_touch_1 : decode cX11_touch 1 = .ok (.iconst 0, 1) := by decide +kernel
theorem dX11_touch_2 : decode cX11_touch 2 = .ok (.iaload, 1) := by decide +kernel
theorem dX11_touch_3 : decode cX11_touch 3 = .ok (.i2l, 1) := by decide +kernel
theorem dX11_touch_4 : decode cX11_touch 4 = .ok (.aload_n 0, 1) := by decide +kernel
theorem dX11_touch_5 : decode cX11_touch 5 = .ok (.iconst 1, 1) := by decide +kernel
theorem dX11_touch_6 : decode cX11_touch 6 = .ok (.iaload, 1) := by decide +kernel
theorem dX11_touch_7 : decode cX11_touch 7 = .ok (.i2l, 1) := by decide +kernel
theorem dX11_touch_8 : decode cX11_touch 8 = .ok (.aload_n 0, 1) := by decide +kernel
theorem dX11_touch_9 : decode cX11_touch 9 = .ok (.iconst 2, 1) := by decide +kernel
theorem dX11_touch_10 : decode cX11_touch 10 = .ok (.iaload, 1) := by decide +kernel
theorem dX11_touch_11 : decode cX11_touch 11 = .ok (.i2l, 1) := by decide +kernel
theorem dX11_touch_12 : decode cX11_touch 12 = .ok (.aload_n 0, 1) := by decide +kernel
theorem dX11_touch_13 : decode cX11_touch 13 = .ok (.iconst 3, 1) := by decide +kernel
theorem dX11_touch_14 : decode cX11_touch 14 = .ok (.iaload, 1) := by decide +kernel
theorem dX11_touch_15 : decode cX11_touch 15 = .ok (.i2l, 1) := by decide +kernel
theorem dX11_touch_16 : decode cX11_touch 16 = .ok (.aload_n 0, 1) := by decide +kernel
theorem dX11_touch_17 : decode cX11_touch 17 = .ok (.iconst 4, 1) := by decide +kernel
theorem dX11_touch_18 : decode cX11_touch 18 = .ok (.iaload, 1) := by decide +kernel
theorem dX11_touch_19 : decode cX11_touch 19 = .ok (.i2l, 1) := by decide +kernel
theorem dX11_touch_20 : decode cX11_touch 20 = .ok (.aload_n 0, 1) := by decide +kernel
theorem dX11_touch_21 : decode cX11_touch 21 = .ok (.iconst 5, 1) := by decide +kernel
theorem dX11_touch_22 : decode cX11_touch 22 = .ok (.iaload, 1) := by decide +kernel
theorem dX11_touch_23 : decode cX11_touch 23 = .ok (.i2l, 1) := by decide +kernel
theorem dX11_touch_24 : decode cX11_touch 24 = .ok (.invokestatic 140, 3) := by decide +kernel
theorem dX11_touch_27 : decode cX11_touch 27 = .ok (.invokestatic 153, 3) := by decide +kernel
theorem dX11_touch_30 : decode cX11_touch 30 = .ok (.istore_n 1, 1) := by decide +kernel
theorem dX11_touch_31 : decode cX11_touch 31 = .ok (.aload_n 0, 1) := by decide +kernel
theorem dX11_touch_32 : decode cX11_touch 32 = .ok (.iconst 0, 1) := by decide +kernel
theorem dX11_touch_33 : decode cX11_touch 33 = .ok (.iaload, 1) := by decide +kernel
theorem dX11_touch_34 : decode cX11_touch 34 = .ok (.i2l, 1) := by decide +kernel
theorem dX11_touch_35 : decode cX11_touch 35 = .ok (.aload_n 0, 1) := by decide +kernel
theorem dX11_touch_36 : decode cX11_touch 36 = .ok (.iconst 1, 1) := by decide +kernel
theorem dX11_touch_37 : decode cX11_touch 37 = .ok (.iaload, 1) := by decide +kernel
theorem dX11_touch_38 : decode cX11_touch 38 = .ok (.i2l, 1) := by decide +kernel
theorem dX11_touch_39 : decode cX11_touch 39 = .ok (.aload_n 0, 1) := by decide +kernel
theorem dX11_touch_40 : decode cX11_touch 40 = .ok (.iconst 2, 1) := by decide +kernel
theorem dX11_touch_41 : decode cX11_touch 41 = .ok (.iaload, 1) := by decide +kernel
theorem dX11_touch_42 : decode cX11_touch 42 = .ok (.i2l, 1) := by decide +kernel
theorem dX11_touch_43 : decode cX11_touch 43 = .ok (.aload_n 0, 1) := by decide +kernel
theorem dX11_touch_44 : decode cX11_touch 44 = .ok (.iconst 3, 1) := by decide +kernel
theorem dX11_touch_45 : decode cX11_touch 45 = .ok (.iaload, 1) := by decide +kernel
theorem dX11_touch_46 : decode cX11_touch 46 = .ok (.i2l, 1) := by decide +kernel
theorem dX11_touch_47 : decode cX11_touch 47 = .ok (.aload_n 0, 1) := by decide +kernel
theorem dX11_touch_48 : decode cX11_touch 48 = .ok (.bipush 6, 2) := by decide +kernel
theorem dX11_touch_50 : decode cX11_touch 50 = .ok (.iaload, 1) := by decide +kernel
theorem dX11_touch_51 : decode cX11_touch 51 = .ok (.i2l, 1) := by decide +kernel
theorem dX11_touch_52 : decode cX11_touch 52 = .ok (.aload_n 0, 1) := by decide +kernel
theorem dX11_touch_53 : decode cX11_touch 53 = .ok (.bipush 7, 2) := by decide +kernel
theorem dX11_touch_55 : decode cX11_touch 55 = .ok (.iaload, 1) := by decide +kernel
theorem dX11_touch_56 : decode cX11_touch 56 = .ok (.i2l, 1) := by decide +kernel
theorem dX11_touch_57 : decode cX11_touch 57 = .ok (.invokestatic 140, 3) := by decide +kernel
theorem dX11_touch_60 : decode cX11_touch 60 = .ok (.invokestatic 153, 3) := by decide +kernel
theorem dX11_touch_63 : decode cX11_touch 63 = .ok (.istore_n 2, 1) := by decide +kernel
theorem dX11_touch_64 : decode cX11_touch 64 = .ok (.aload_n 0, 1) := by decide +kernel
theorem dX11_touch_65 : decode cX11_touch 65 = .ok (.iconst 4, 1) := by decide +kernel
theorem dX11_touch_66 : decode cX11_touch 66 = .ok (.iaload, 1) := by decide +kernel
theorem dX11_touch_67 : decode cX11_touch 67 = .ok (.i2l, 1) := by decide +kernel
theorem dX11_touch_68 : decode cX11_touch 68 = .ok (.aload_n 0, 1) := by decide +kernel
theorem dX11_touch_69 : decode cX11_touch 69 = .ok (.iconst 5, 1) := by decide +kernel
theorem dX11_touch_70 : decode cX11_touch 70 = .ok (.iaload, 1) := by decide +kernel
theorem dX11_touch_71 : decode cX11_touch 71 = .ok (.i2l, 1) := by decide +kernel
theorem dX11_touch_72 : decode cX11_touch 72 = .ok (.aload_n 0, 1) := by decide +kernel
theorem dX11_touch_73 : decode cX11_touch 73 = .ok (.bipush 6, 2) := by decide +kernel
theorem dX11_touch_75 : decode cX11_touch 75 = .ok (.iaload, 1) := by decide +kernel
theorem dX11_touch_76 : decode cX11_touch 76 = .ok (.i2l, 1) := by decide +kernel
theorem dX11_touch_77 : decode cX11_touch 77 = .ok (.aload_n 0, 1) := by decide +kernel
theorem dX11_touch_78 : decode cX11_touch 78 = .ok (.bipush 7, 2) := by decide +kernel
theorem dX11_touch_80 : decode cX11_touch 80 = .ok (.iaload, 1) := by decide +kernel
theorem dX11_touch_81 : decode cX11_touch 81 = .ok (.i2l, 1) := by decide +kernel
theorem dX11_touch_82 : decode cX11_touch 82 = .ok (.aload_n 0, 1) := by decide +kernel
theorem dX11_touch_83 : decode cX11_touch 83 = .ok (.iconst 0, 1) := by decide +kernel
theorem dX11_touch_84 : decode cX11_touch 84 = .ok (.iaload, 1) := by decide +kernel
theorem dX11_touch_85 : decode cX11_touch 85 = .ok (.i2l, 1) := by decide +kernel
theorem dX11_touch_86 : decode cX11_touch 86 = .ok (.aload_n 0, 1) := by decide +kernel
theorem dX11_touch_87 : decode cX11_touch 87 = .ok (.iconst 1, 1) := by decide +kernel
theorem dX11_touch_88 : decode cX11_touch 88 = .ok (.iaload, 1) := by decide +kernel
theorem dX11_touch_89 : decode cX11_touch 89 = .ok (.i2l, 1) := by decide +kernel
theorem dX11_touch_90 : decode cX11_touch 90 = .ok (.invokestatic 140, 3) := by decide +kernel
theorem dX11_touch_93 : decode cX11_touch 93 = .ok (.invokestatic 153, 3) := by decide +kernel
theorem dX11_touch_96 : decode cX11_touch 96 = .ok (.istore_n 3, 1) := by decide +kernel
theorem dX11_touch_97 : decode cX11_touch 97 = .ok (.aload_n 0, 1) := by decide +kernel
theorem dX11_touch_98 : decode cX11_touch 98 = .ok (.iconst 4, 1) := by decide +kernel
theorem dX11_touch_99 : decode cX11_touch 99 = .ok (.iaload, 1) := by decide +kernel
theorem dX11_touch_100 : decode cX11_touch 100 = .ok (.i2l, 1) := by decide +kernel
theorem dX11_touch_101 : decode cX11_touch 101 = .ok (.aload_n 0, 1) := by decide +kernel
theorem dX11_touch_102 : decode cX11_touch 102 = .ok (.iconst 5, 1) := by decide +kernel
theorem dX11_touch_103 : decode cX11_touch 103 = .ok (.iaload, 1) := by decide +kernel
theorem dX11_touch_104 : decode cX11_touch 104 = .ok (.i2l, 1) := by decide +kernel
theorem dX11_touch_105 : decode cX11_touch 105 = .ok (.aload_n 0, 1) := by decide +kernel
theorem dX11_touch_106 : decode cX11_touch 106 = .ok (.bipush 6, 2) := by decide +kernel
theorem dX11_touch_108 : decode cX11_touch 108 = .ok (.iaload, 1) := by decide +kernel
theorem dX11_touch_109 : decode cX11_touch 109 = .ok (.i2l, 1) := by decide +kernel
theorem dX11_touch_110 : decode cX11_touch 110 = .ok (.aload_n 0, 1) := by decide +kernel
theorem dX11_touch_111 : decode cX11_touch 111 = .ok (.bipush 7, 2) := by decide +kernel
theorem dX11_touch_113 : decode cX11_touch 113 = .ok (.iaload, 1) := by decide +kernel
theorem dX11_touch_114 : decode cX11_touch 114 = .ok (.i2l, 1) := by decide +kernel
theorem dX11_touch_115 : decode cX11_touch 115 = .ok (.aload_n 0, 1) := by decide +kernel
theorem dX11_touch_116 : decode cX11_touch 116 = .ok (.iconst 2, 1) := by decide +kernel
theorem dX11_touch_117 : decode cX11_touch 117 = .ok (.iaload, 1) := by decide +kernel
theorem dX11_touch_118 : decode cX11_touch 118 = .ok (.i2l, 1) := by decide +kernel
theorem dX11_touch_119 : decode cX11_touch 119 = .ok (.aload_n 0, 1) := by decide +kernel
theorem dX11_touch_120 : decode cX11_touch 120 = .ok (.iconst 3, 1) := by decide +kernel
theorem dX11_touch_121 : decode cX11_touch 121 = .ok (.iaload, 1) := by decide +kernel
theorem dX11_touch_122 : decode cX11_touch 122 = .ok (.i2l, 1) := by decide +kernel
theorem dX11_touch_123 : decode cX11_touch 123 = .ok (.invokestatic 140, 3) := by decide +kernel
theorem dX11_touch_126 : decode cX11_touch 126 = .ok (.invokestatic 153, 3) := by decide +kernel
theorem dX11_touch_129 : decode cX11_touch 129 = .ok (.istore 4, 2) := by decide +kernel
theorem dX11_touch_131 : decode cX11_touch 131 = .ok (.iload_n 1, 1) := by decide +kernel
theorem dX11_touch_132 : decode cX11_touch 132 = .ok (.iload_n 2, 1) := by decide +kernel
theorem dX11_touch_133 : decode cX11_touch 133 = .ok (.imul, 1) := by decide +kernel
theorem dX11_touch_134 : decode cX11_touch 134 = .ok (.ifCond .ge 12, 3) := by decide +kernel
theorem dX11_touch_137 : decode cX11_touch 137 = .ok (.iload_n 3, 1) := by decide +kernel
theorem dX11_touch_138 : decode cX11_touch 138 = .ok (.iload 4, 2) := by decide +kernel
theorem dX11_touch_140 : decode cX11_touch 140 = .ok (.imul, 1) := by decide +kernel
theorem dX11_touch_141 : decode cX11_touch 141 = .ok (.ifCond .ge 5, 3) := by decide +kernel
theorem dX11_touch_144 : decode cX11_touch 144 = .ok (.iconst 1, 1) := by decide +kernel
theorem dX11_touch_145 : decode cX11_touch 145 = .ok (.ireturn, 1) := by decide +kernel
theorem dX11_touch_146 : decode cX11_touch 146 = .ok (.aload_n 0, 1) := by decide +kernel
theorem dX11_touch_147 : decode cX11_touch 147 = .ok (.iconst 0, 1) := by decide +kernel
theorem dX11_touch_148 : decode cX11_touch 148 = .ok (.iaload, 1) := by decide +kernel
theorem dX11_touch_149 : decode cX11_touch 149 = .ok (.aload_n 0, 1) := by decide +kernel
theorem dX11_touch_150 : decode cX11_touch 150 = .ok (.iconst 1, 1) := by decide +kernel
theorem dX11_touch_151 : decode cX11_touch 151 = .ok (.iaload, 1) := by decide +kernel
theorem dX11_touch_152 : decode cX11_touch 152 = .ok (.aload_n 0, 1) := by decide +kernel
theorem dX11_touch_153 : decode cX11_touch 153 = .ok (.iconst 2, 1) := by decide +kernel
theorem dX11_touch_154 : decode cX11_touch 154 = .ok (.iaload, 1) := by decide +kernel
theorem dX11_touch_155 : decode cX11_touch 155 = .ok (.aload_n 0, 1) := by decide +kernel
theorem dX11_touch_156 : decode cX11_touch 156 = .ok (.iconst 3, 1) := by decide +kernel
theorem dX11_touch_157 : decode cX11_touch 157 = .ok (.iaload, 1) := by decide +kernel
theorem dX11_touch_158 : decode cX11_touch 158 = .ok (.aload_n 0, 1) := by decide +kernel
theorem dX11_touch_159 : decode cX11_touch 159 = .ok (.iconst 4, 1) := by decide +kernel
theorem dX11_touch_160 : decode cX11_touch 160 = .ok (.iaload, 1) := by decide +kernel
theorem dX11_touch_161 : decode cX11_touch 161 = .ok (.aload_n 0, 1) := by decide +kernel
theorem dX11_touch_162 : decode cX11_touch 162 = .ok (.iconst 5, 1) := by decide +kernel
theorem dX11_touch_163 : decode cX11_touch 163 = .ok (.iaload, 1) := by decide +kernel
theorem dX11_touch_164 : decode cX11_touch 164 = .ok (.invokestatic 157, 3) := by decide +kernel
theorem dX11_touch_167 : decode cX11_touch 167 = .ok (.ifCond .ne 29, 3) := by decide +kernel
theorem dX11_touch_170 : decode cX11_touch 170 = .ok (.aload_n 0, 1) := by decide +kernel
theorem dX11_touch_171 : decode cX11_touch 171 = .ok (.iconst 0, 1) := by decide +kernel
theorem dX11_touch_172 : decode cX11_touch 172 = .ok (.iaload, 1) := by decide +kernel
theorem dX11_touch_173 : decode cX11_touch 173 = .ok (.aload_n 0, 1) := by decide +kernel
theorem dX11_touch_174 : decode cX11_touch 174 = .ok (.iconst 1, 1) := by decide +kernel
theorem dX11_touch_175 : decode cX11_touch 175 = .ok (.iaload, 1) := by decide +kernel
theorem dX11_touch_176 : decode cX11_touch 176 = .ok (.aload_n 0, 1) := by decide +kernel
theorem dX11_touch_177 : decode cX11_touch 177 = .ok (.iconst 2, 1) := by decide +kernel
theorem dX11_touch_178 : decode cX11_touch 178 = .ok (.iaload, 1) := by decide +kernel
theorem dX11_touch_179 : decode cX11_touch 179 = .ok (.aload_n 0, 1) := by decide +kernel
theorem dX11_touch_180 : decode cX11_touch 180 = .ok (.iconst 3, 1) := by decide +kernel
theorem dX11_touch_181 : decode cX11_touch 181 = .ok (.iaload, 1) := by decide +kernel
theorem dX11_touch_182 : decode cX11_touch 182 = .ok (.aload_n 0, 1) := by decide +kernel
theorem dX11_touch_183 : decode cX11_touch 183 = .ok (.bipush 6, 2) := by decide +kernel
theorem dX11_touch_185 : decode cX11_touch 185 = .ok (.iaload, 1) := by decide +kernel
theorem dX11_touch_186 : decode cX11_touch 186 = .ok (.aload_n 0, 1) := by decide +kernel
theorem dX11_touch_187 : decode cX11_touch 187 = .ok (.bipush 7, 2) := by decide +kernel
theorem dX11_touch_189 : decode cX11_touch 189 = .ok (.iaload, 1) := by decide +kernel
theorem dX11_touch_190 : decode cX11_touch 190 = .ok (.invokestatic 157, 3) := by decide +kernel
theorem dX11_touch_193 : decode cX11_touch 193 = .ok (.ifCond .eq 7, 3) := by decide +kernel
theorem dX11_touch_196 : decode cX11_touch 196 = .ok (.iconst 1, 1) := by decide +kernel
theorem dX11_touch_197 : decode cX11_touch 197 = .ok (.goto 4, 3) := by decide +kernel
theorem dX11_touch_200 : decode cX11_touch 200 = .ok (.iconst 0, 1) := by decide +kernel
theorem dX11_touch_201 : decode cX11_touch 201 = .ok (.istore 5, 2) := by decide +kernel
theorem dX11_touch_203 : decode cX11_touch 203 = .ok (.iload 5, 2) := by decide +kernel
theorem dX11_touch_205 : decode cX11_touch 205 = .ok (.ifCond .ne 55, 3) := by decide +kernel
theorem dX11_touch_208 : decode cX11_touch 208 = .ok (.aload_n 0, 1) := by decide +kernel
theorem dX11_touch_209 : decode cX11_touch 209 = .ok (.iconst 4, 1) := by decide +kernel
theorem dX11_touch_210 : decode cX11_touch 210 = .ok (.iaload, 1) := by decide +kernel
theorem dX11_touch_211 : decode cX11_touch 211 = .ok (.aload_n 0, 1) := by decide +kernel
theorem dX11_touch_212 : decode cX11_touch 212 = .ok (.iconst 5, 1) := by decide +kernel
theorem dX11_touch_213 : decode cX11_touch 213 = .ok (.iaload, 1) := by decide +kernel
theorem dX11_touch_214 : decode cX11_touch 214 = .ok (.aload_n 0, 1) := by decide +kernel
theorem dX11_touch_215 : decode cX11_touch 215 = .ok (.bipush 6, 2) := by decide +kernel
theorem dX11_touch_217 : decode cX11_touch 217 = .ok (.iaload, 1) := by decide +kernel
theorem dX11_touch_218 : decode cX11_touch 218 = .ok (.aload_n 0, 1) := by decide +kernel
theorem dX11_touch_219 : decode cX11_touch 219 = .ok (.bipush 7, 2) := by decide +kernel
theorem dX11_touch_221 : decode cX11_touch 221 = .ok (.iaload, 1) := by decide +kernel
theorem dX11_touch_222 : decode cX11_touch 222 = .ok (.aload_n 0, 1) := by decide +kernel
theorem dX11_touch_223 : decode cX11_touch 223 = .ok (.iconst 0, 1) := by decide +kernel
theorem dX11_touch_224 : decode cX11_touch 224 = .ok (.iaload, 1) := by decide +kernel
theorem dX11_touch_225 : decode cX11_touch 225 = .ok (.aload_n 0, 1) := by decide +kernel
theorem dX11_touch_226 : decode cX11_touch 226 = .ok (.iconst 1, 1) := by decide +kernel
theorem dX11_touch_227 : decode cX11_touch 227 = .ok (.iaload, 1) := by decide +kernel
theorem dX11_touch_228 : decode cX11_touch 228 = .ok (.invokestatic 157, 3) := by decide +kernel
theorem dX11_touch_231 : decode cX11_touch 231 = .ok (.ifCond .ne 29, 3) := by decide +kernel
theorem dX11_touch_234 : decode cX11_touch 234 = .ok (.aload_n 0, 1) := by decide +kernel
theorem dX11_touch_235 : decode cX11_touch 235 = .ok (.iconst 4, 1) := by decide +kernel
theorem dX11_touch_236 : decode cX11_touch 236 = .ok (.iaload, 1) := by decide +kernel
theorem dX11_touch_237 : decode cX11_touch 237 = .ok (.aload_n 0, 1) := by decide +kernel
theorem dX11_touch_238 : decode cX11_touch 238 = .ok (.iconst 5, 1) := by decide +kernel
theorem dX11_touch_239 : decode cX11_touch 239 = .ok (.iaload, 1) := by decide +kernel
theorem dX11_touch_240 : decode cX11_touch 240 = .ok (.aload_n 0, 1) := by decide +kernel
theorem dX11_touch_241 : decode cX11_touch 241 = .ok (.bipush 6, 2) := by decide +kernel
theorem dX11_touch_243 : decode cX11_touch 243 = .ok (.iaload, 1) := by decide +kernel
theorem dX11_touch_244 : decode cX11_touch 244 = .ok (.aload_n 0, 1) := by decide +kernel
theorem dX11_touch_245 : decode cX11_touch 245 = .ok (.bipush 7, 2) := by decide +kernel
theorem dX11_touch_247 : decode cX11_touch 247 = .ok (.iaload, 1) := by decide +kernel
theorem dX11_touch_248 : decode cX11_touch 248 = .ok (.aload_n 0, 1) := by decide +kernel
theorem dX11_touch_249 : decode cX11_touch 249 = .ok (.iconst 2, 1) := by decide +kernel
theorem dX11_touch_250 : decode cX11_touch 250 = .ok (.iaload, 1) := by decide +kernel
theorem dX11_touch_251 : decode cX11_touch 251 = .ok (.aload_n 0, 1) := by decide +kernel
theorem dX11_touch_252 : decode cX11_touch 252 = .ok (.iconst 3, 1) := by decide +kernel
theorem dX11_touch_253 : decode cX11_touch 253 = .ok (.iaload, 1) := by decide +kernel
theorem dX11_touch_254 : decode cX11_touch 254 = .ok (.invokestatic 157, 3) := by decide +kernel
theorem dX11_touch_257 : decode cX11_touch 257 = .ok (.ifCond .eq 7, 3) := by decide +kernel
theorem dX11_touch_260 : decode cX11_touch 260 = .ok (.iconst 1, 1) := by decide +kernel
theorem dX11_touch_261 : decode cX11_touch 261 = .ok (.goto 4, 3) := by decide +kernel
theorem dX11_touch_264 : decode cX11_touch 264 = .ok (.iconst 0, 1) := by decide +kernel
theorem dX11_touch_265 : decode cX11_touch 265 = .ok (.ireturn, 1) := by decide +kernel
theorem dX11_isWithin_0 : decode cX11_isWithin 0 = .ok (.aload_n 0, 1) := by decide +kernel
theorem dX11_isWithin_1 : decode cX11_isWithin 1 = .ok (.iconst 0, 1) := by decide +kernel
theorem dX11_isWithin_2 : decode cX11_isWithin 2 = .ok (.iaload, 1) := by decide +kernel
theorem dX11_isWithin_3 : decode cX11_isWithin 3 = .ok (.i2l, 1) := by decide +kernel
theorem dX11_isWithin_4 : decode cX11_isWithin 4 = .ok (.aload_n 0, 1) := by decide +kernel
theorem dX11_isWithin_5 : decode cX11_isWithin 5 = .ok (.iconst 1, 1) := by decide +kernel
theorem dX11_isWithin_6 : decode cX11_isWithin 6 = .ok (.iaload, 1) := by decide +kernel
theorem dX11_isWithin_7 : decode cX11_isWithin 7 = .ok (.i2l, 1) := by decide +kernel
theorem dX11_isWithin_8 : decode cX11_isWithin 8 = .ok (.aload_n 0, 1) := by decide +kernel
theorem dX11_isWithin_9 : decode cX11_isWithin 9 = .ok (.iconst 2, 1) := by decide +kernel
theorem dX11_isWithin_10 : decode cX11_isWithin 10 = .ok (.iaload, 1) := by decide +kernel
theorem dX11_isWithin_11 : decode cX11_isWithin 11 = .ok (.i2l, 1) := by decide +kernel
theorem dX11_isWithin_12 : decode cX11_isWithin 12 = .ok (.aload_n 0, 1) := by decide +kernel
theorem dX11_isWithin_13 : decode cX11_isWithin 13 = .ok (.iconst 3, 1) := by decide +kernel
theorem dX11_isWithin_14 : decode cX11_isWithin 14 = .ok (.iaload, 1) := by decide +kernel
