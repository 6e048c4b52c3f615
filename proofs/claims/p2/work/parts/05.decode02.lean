theorem dX7_smoothFrom_65 : decode cX7_smoothFrom 65 = .ok (.iconst 2, 1) := by decide +kernel
theorem dX7_smoothFrom_66 : decode cX7_smoothFrom 66 = .ok (.aload_n 1, 1) := by decide +kernel
theorem dX7_smoothFrom_67 : decode cX7_smoothFrom 67 = .ok (.getfield 21, 3) := by decide +kernel
theorem dX7_smoothFrom_70 : decode cX7_smoothFrom 70 = .ok (.iload_n 2, 1) := by decide +kernel
theorem dX7_smoothFrom_71 : decode cX7_smoothFrom 71 = .ok (.iaload, 1) := by decide +kernel
theorem dX7_smoothFrom_72 : decode cX7_smoothFrom 72 = .ok (.imul, 1) := by decide +kernel
theorem dX7_smoothFrom_73 : decode cX7_smoothFrom 73 = .ok (.iadd, 1) := by decide +kernel
theorem dX7_smoothFrom_74 : decode cX7_smoothFrom 74 = .ok (.aload_n 1, 1) := by decide +kernel
theorem dX7_smoothFrom_75 : decode cX7_smoothFrom 75 = .ok (.getfield 21, 3) := by decide +kernel
theorem dX7_smoothFrom_78 : decode cX7_smoothFrom 78 = .ok (.iload 4, 2) := by decide +kernel
theorem dX7_smoothFrom_80 : decode cX7_smoothFrom 80 = .ok (.iaload, 1) := by decide +kernel
theorem dX7_smoothFrom_81 : decode cX7_smoothFrom 81 = .ok (.iadd, 1) := by decide +kernel
theorem dX7_smoothFrom_82 : decode cX7_smoothFrom 82 = .ok (.iconst 4, 1) := by decide +kernel
theorem dX7_smoothFrom_83 : decode cX7_smoothFrom 83 = .ok (.idiv, 1) := by decide +kernel
theorem dX7_smoothFrom_84 : decode cX7_smoothFrom 84 = .ok (.aload_n 1, 1) := by decide +kernel
theorem dX7_smoothFrom_85 : decode cX7_smoothFrom 85 = .ok (.getfield 25, 3) := by decide +kernel
theorem dX7_smoothFrom_88 : decode cX7_smoothFrom 88 = .ok (.iload_n 3, 1) := by decide +kernel
theorem dX7_smoothFrom_89 : decode cX7_smoothFrom 89 = .ok (.iaload, 1) := by decide +kernel
theorem dX7_smoothFrom_90 : decode cX7_smoothFrom 90 = .ok (.iconst 2, 1) := by decide +kernel
theorem dX7_smoothFrom_91 : decode cX7_smoothFrom 91 = .ok (.aload_n 1, 1) := by decide +kernel
theorem dX7_smoothFrom_92 : decode cX7_smoothFrom 92 = .ok (.getfield 25, 3) := by decide +kernel
theorem dX7_smoothFrom_95 : decode cX7_smoothFrom 95 = .ok (.iload_n 2, 1) := by decide +kernel
theorem dX7_smoothFrom_96 : decode cX7_smoothFrom 96 = .ok (.iaload, 1) := by decide +kernel
theorem dX7_smoothFrom_97 : decode cX7_smoothFrom 97 = .ok (.imul, 1) := by decide +kernel
theorem dX7_smoothFrom_98 : decode cX7_smoothFrom 98 = .ok (.iadd, 1) := by decide +kernel
theorem dX7_smoothFrom_99 : decode cX7_smoothFrom 99 = .ok (.aload_n 1, 1) := by decide +kernel
theorem dX7_smoothFrom_100 : decode cX7_smoothFrom 100 = .ok (.getfield 25, 3) := by decide +kernel
theorem dX7_smoothFrom_103 : decode cX7_smoothFrom 103 = .ok (.iload 4, 2) := by decide +kernel
theorem dX7_smoothFrom_105 : decode cX7_smoothFrom 105 = .ok (.iaload, 1) := by decide +kernel
theorem dX7_smoothFrom_106 : decode cX7_smoothFrom 106 = .ok (.iadd, 1) := by decide +kernel
theorem dX7_smoothFrom_107 : decode cX7_smoothFrom 107 = .ok (.iconst 4, 1) := by decide +kernel
theorem dX7_smoothFrom_108 : decode cX7_smoothFrom 108 = .ok (.idiv, 1) := by decide +kernel
theorem dX7_smoothFrom_109 : decode cX7_smoothFrom 109 = .ok (.invokevirtual 36, 3) := by decide +kernel
theorem dX7_smoothFrom_112 : decode cX7_smoothFrom 112 = .ok (.iinc 2 1, 3) := by decide +kernel
theorem dX7_smoothFrom_115 : decode cX7_smoothFrom 115 = .ok (.goto (-105), 3) := by decide +kernel
theorem dX7_smoothFrom_118 : decode cX7_smoothFrom 118 = .ok (.return_, 1) := by decide +kernel
theorem dX7_doubleFrom_0 : decode cX7_doubleFrom 0 = .ok (.aload_n 0, 1) := by decide +kernel
theorem dX7_doubleFrom_1 : decode cX7_doubleFrom 1 = .ok (.aload_n 1, 1) := by decide +kernel
theorem dX7_doubleFrom_2 : decode cX7_doubleFrom 2 = .ok (.getfield 28, 3) := by decide +kernel
theorem dX7_doubleFrom_5 : decode cX7_doubleFrom 5 = .ok (.invokevirtual 32, 3) := by decide +kernel
theorem dX7_doubleFrom_8 : decode cX7_doubleFrom 8 = .ok (.iconst 0, 1) := by decide +kernel
theorem dX7_doubleFrom_9 : decode cX7_doubleFrom 9 = .ok (.istore_n 2, 1) := by decide +kernel
theorem dX7_doubleFrom_10 : decode cX7_doubleFrom 10 = .ok (.iload_n 2, 1) := by decide +kernel
theorem dX7_doubleFrom_11 : decode cX7_doubleFrom 11 = .ok (.aload_n 1, 1) := by decide +kernel
theorem dX7_doubleFrom_12 : decode cX7_doubleFrom 12 = .ok (.getfield 9, 3) := by decide +kernel
theorem dX7_doubleFrom_15 : decode cX7_doubleFrom 15 = .ok (.if_icmp .ge 43, 3) := by decide +kernel
theorem dX7_doubleFrom_18 : decode cX7_doubleFrom 18 = .ok (.aload_n 0, 1) := by decide +kernel
theorem dX7_doubleFrom_19 : decode cX7_doubleFrom 19 = .ok (.iconst 2, 1) := by decide +kernel
theorem dX7_doubleFrom_20 : decode cX7_doubleFrom 20 = .ok (.aload_n 1, 1) := by decide +kernel
theorem dX7_doubleFrom_21 : decode cX7_doubleFrom 21 = .ok (.getfield 21, 3) := by decide +kernel
theorem dX7_doubleFrom_24 : decode cX7_doubleFrom 24 = .ok (.iload_n 2, 1) := by decide +kernel
theorem dX7_doubleFrom_25 : decode cX7_doubleFrom 25 = .ok (.iaload, 1) := by decide +kernel
theorem dX7_doubleFrom_26 : decode cX7_doubleFrom 26 = .ok (.imul, 1) := by decide +kernel
theorem dX7_doubleFrom_27 : decode cX7_doubleFrom 27 = .ok (.aload_n 1, 1) := by decide +kernel
theorem dX7_doubleFrom_28 : decode cX7_doubleFrom 28 = .ok (.getfield 21, 3) := by decide +kernel
theorem dX7_doubleFrom_31 : decode cX7_doubleFrom 31 = .ok (.iconst 0, 1) := by decide +kernel
theorem dX7_doubleFrom_32 : decode cX7_doubleFrom 32 = .ok (.iaload, 1) := by decide +kernel
theorem dX7_doubleFrom_33 : decode cX7_doubleFrom 33 = .ok (.isub, 1) := by decide +kernel
theorem dX7_doubleFrom_34 : decode cX7_doubleFrom 34 = .ok (.iconst 2, 1) := by decide +kernel
theorem dX7_doubleFrom_35 : decode cX7_doubleFrom 35 = .ok (.aload_n 1, 1) := by decide +kernel
theorem dX7_doubleFrom_36 : decode cX7_doubleFrom 36 = .ok (.getfield 25, 3) := by decide +kernel
theorem dX7_doubleFrom_39 : decode cX7_doubleFrom 39 = .ok (.iload_n 2, 1) := by decide +kernel
theorem dX7_doubleFrom_40 : decode cX7_doubleFrom 40 = .ok (.iaload, 1) := by decide +kernel
theorem dX7_doubleFrom_41 : decode cX7_doubleFrom 41 = .ok (.imul, 1) := by decide +kernel
theorem dX7_doubleFrom_42 : decode cX7_doubleFrom 42 = .ok (.aload_n 1, 1) := by decide +kernel
theorem dX7_doubleFrom_43 : decode cX7_doubleFrom 43 = .ok (.getfield 25, 3) := by decide +kernel
theorem dX7_doubleFrom_46 : decode cX7_doubleFrom 46 = .ok (.iconst 0, 1) := by decide +kernel
theorem dX7_doubleFrom_47 : decode cX7_doubleFrom 47 = .ok (.iaload, 1) := by decide +kernel
theorem dX7_doubleFrom_48 : decode cX7_doubleFrom 48 = .ok (.isub, 1) := by decide +kernel
theorem dX7_doubleFrom_49 : decode cX7_doubleFrom 49 = .ok (.invokevirtual 36, 3) := by decide +kernel
theorem dX7_doubleFrom_52 : decode cX7_doubleFrom 52 = .ok (.iinc 2 1, 3) := by decide +kernel
theorem dX7_doubleFrom_55 : decode cX7_doubleFrom 55 = .ok (.goto (-45), 3) := by decide +kernel
theorem dX7_doubleFrom_58 : decode cX7_doubleFrom 58 = .ok (.return_, 1) := by decide +kernel
theorem dX7_boxFrom_0 : decode cX7_boxFrom 0 = .ok (.aload_n 0, 1) := by decide +kernel
theorem dX7_boxFrom_1 : decode cX7_boxFrom 1 = .ok (.iconst 1, 1) := by decide +kernel
theorem dX7_boxFrom_2 : decode cX7_boxFrom 2 = .ok (.invokevirtual 32, 3) := by decide +kernel
theorem dX7_boxFrom_5 : decode cX7_boxFrom 5 = .ok (.aload_n 0, 1) := by decide +kernel
theorem dX7_boxFrom_6 : decode cX7_boxFrom 6 = .ok (.aload_n 1, 1) := by decide +kernel
theorem dX7_boxFrom_7 : decode cX7_boxFrom 7 = .ok (.getfield 97, 3) := by decide +kernel
theorem dX7_boxFrom_10 : decode cX7_boxFrom 10 = .ok (.aload_n 1, 1) := by decide +kernel
theorem dX7_boxFrom_11 : decode cX7_boxFrom 11 = .ok (.getfield 102, 3) := by decide +kernel
theorem dX7_boxFrom_14 : decode cX7_boxFrom 14 = .ok (.invokevirtual 36, 3) := by decide +kernel
theorem dX7_boxFrom_17 : decode cX7_boxFrom 17 = .ok (.aload_n 0, 1) := by decide +kernel
theorem dX7_boxFrom_18 : decode cX7_boxFrom 18 = .ok (.aload_n 1, 1) := by decide +kernel
theorem dX7_boxFrom_19 : decode cX7_boxFrom 19 = .ok (.getfield 105, 3) := by decide +kernel
theorem dX7_boxFrom_22 : decode cX7_boxFrom 22 = .ok (.aload_n 1, 1) := by decide +kernel
theorem dX7_boxFrom_23 : decode cX7_boxFrom 23 = .ok (.getfield 102, 3) := by decide +kernel
theorem dX7_boxFrom_26 : decode cX7_boxFrom 26 = .ok (.invokevirtual 36, 3) := by decide +kernel
theorem dX7_boxFrom_29 : decode cX7_boxFrom 29 = .ok (.aload_n 0, 1) := by decide +kernel
theorem dX7_boxFrom_30 : decode cX7_boxFrom 30 = .ok (.aload_n 1, 1) := by decide +kernel
theorem dX7_boxFrom_31 : decode cX7_boxFrom 31 = .ok (.getfield 105, 3) := by decide +kernel
theorem dX7_boxFrom_34 : decode cX7_boxFrom 34 = .ok (.aload_n 1, 1) := by decide +kernel
theorem dX7_boxFrom_35 : decode cX7_boxFrom 35 = .ok (.getfield 108, 3) := by decide +kernel
theorem dX7_boxFrom_38 : decode cX7_boxFrom 38 = .ok (.invokevirtual 36, 3) := by decide +kernel
theorem dX7_boxFrom_41 : decode cX7_boxFrom 41 = .ok (.aload_n 0, 1) := by decide +kernel
theorem dX7_boxFrom_42 : decode cX7_boxFrom 42 = .ok (.aload_n 1, 1) := by decide +kernel
theorem dX7_boxFrom_43 : decode cX7_boxFrom 43 = .ok (.getfield 97, 3) := by decide +kernel
theorem dX7_boxFrom_46 : decode cX7_boxFrom 46 = .ok (.aload_n 1, 1) := by decide +kernel
theorem dX7_boxFrom_47 : decode cX7_boxFrom 47 = .ok (.getfield 108, 3) := by decide +kernel
theorem dX7_boxFrom_50 : decode cX7_boxFrom 50 = .ok (.invokevirtual 36, 3) := by decide +kernel
theorem dX7_boxFrom_53 : decode cX7_boxFrom 53 = .ok (.return_, 1) := by decide +kernel
theorem dX7_carry_0 : decode cX7_carry 0 = .ok (.iconst 0, 1) := by decide +kernel
theorem dX7_carry_1 : decode cX7_carry 1 = .ok (.istore_n 3, 1) := by decide +kernel
theorem dX7_carry_2 : decode cX7_carry 2 = .ok (.iload_n 3, 1) := by decide +kernel
theorem dX7_carry_3 : decode cX7_carry 3 = .ok (.aload_n 0, 1) := by decide +kernel
theorem dX7_carry_4 : decode cX7_carry 4 = .ok (.getfield 9, 3) := by decide +kernel
theorem dX7_carry_7 : decode cX7_carry 7 = .ok (.if_icmp .ge 29, 3) := by decide +kernel
theorem dX7_carry_10 : decode cX7_carry 10 = .ok (.aload_n 0, 1) := by decide +kernel
theorem dX7_carry_11 : decode cX7_carry 11 = .ok (.getfield 21, 3) := by decide +kernel
theorem dX7_carry_14 : decode cX7_carry 14 = .ok (.iload_n 3, 1) := by decide +kernel
theorem dX7_carry_15 : decode cX7_carry 15 = .ok (.dup2, 1) := by decide +kernel
theorem dX7_carry_16 : decode cX7_carry 16 = .ok (.iaload, 1) := by decide +kernel
theorem dX7_carry_17 : decode cX7_carry 17 = .ok (.iload_n 1, 1) := by decide +kernel
theorem dX7_carry_18 : decode cX7_carry 18 = .ok (.iadd, 1) := by decide +kernel
theorem dX7_carry_19 : decode cX7_carry 19 = .ok (.iastore, 1) := by decide +kernel
theorem dX7_carry_20 : decode cX7_carry 20 = .ok (.aload_n 0, 1) := by decide +kernel
theorem dX7_carry_21 : decode cX7_carry 21 = .ok (.getfield 25, 3) := by decide +kernel
theorem dX7_carry_24 : decode cX7_carry 24 = .ok (.iload_n 3, 1) := by decide +kernel
theorem dX7_carry_25 : decode cX7_carry 25 = .ok (.dup2, 1) := by decide +kernel
theorem dX7_carry_26 : decode cX7_carry 26 = .ok (.iaload, 1) := by decide +kernel
theorem dX7_carry_27 : decode cX7_carry 27 = .ok (.iload_n 2, 1) := by decide +kernel
theorem dX7_carry_28 : decode cX7_carry 28 = .ok (.iadd, 1) := by decide +kernel
theorem dX7_carry_29 : decode cX7_carry 29 = .ok (.iastore, 1) := by decide +kernel
theorem dX7_carry_30 : decode cX7_carry 30 = .ok (.iinc 3 1, 3) := by decide +kernel
theorem dX7_carry_33 : decode cX7_carry 33 = .ok (.goto (-31), 3) := by decide +kernel
theorem dX7_carry_36 : decode cX7_carry 36 = .ok (.return_, 1) := by decide +kernel
theorem dX7_pull_0 : decode cX7_pull 0 = .ok (.iload 4, 2) := by decide +kernel
theorem dX7_pull_2 : decode cX7_pull 2 = .ok (.iconst 0, 1) := by decide +kernel
theorem dX7_pull_3 : decode cX7_pull 3 = .ok (.invokestatic 15, 3) := by decide +kernel
theorem dX7_pull_6 : decode cX7_pull 6 = .ok (.iconst 1, 1) := by decide +kernel
theorem dX7_pull_7 : decode cX7_pull 7 = .ok (.iadd, 1) := by decide +kernel
theorem dX7_pull_8 : decode cX7_pull 8 = .ok (.istore 5, 2) := by decide +kernel
theorem dX7_pull_10 : decode cX7_pull 10 = .ok (.iconst 0, 1) := by decide +kernel
theorem dX7_pull_11 : decode cX7_pull 11 = .ok (.istore 6, 2) := by decide +kernel
theorem dX7_pull_13 : decode cX7_pull 13 = .ok (.iload 6, 2) := by decide +kernel
theorem dX7_pull_15 : decode cX7_pull 15 = .ok (.aload_n 0, 1) := by decide +kernel
theorem dX7_pull_16 : decode cX7_pull 16 = .ok (.getfield 9, 3) := by decide +kernel
theorem dX7_pull_19 : decode cX7_pull 19 = .ok (.if_icmp .ge 95, 3) := by decide +kernel
theorem dX7_pull_22 : decode cX7_pull 22 = .ok (.iload 6, 2) := by decide +kernel
theorem dX7_pull_24 : decode cX7_pull 24 = .ok (.iload_n 1, 1) := by decide +kernel
theorem dX7_pull_25 : decode cX7_pull 25 = .ok (.isub, 1) := by decide +kernel
theorem dX7_pull_26 : decode cX7_pull 26 = .ok (.invokestatic 91, 3) := by decide +kernel
theorem dX7_pull_29 : decode cX7_pull 29 = .ok (.istore 7, 2) := by decide +kernel
theorem dX7_pull_31 : decode cX7_pull 31 = .ok (.aload_n 0, 1) := by decide +kernel
theorem dX7_pull_32 : decode cX7_pull 32 = .ok (.getfield 28, 3) := by decide +kernel
theorem dX7_pull_35 : decode cX7_pull 35 = .ok (.ifCond .eq 17, 3) := by decide +kernel
theorem dX7_pull_38 : decode cX7_pull 38 = .ok (.iload 7, 2) := by decide +kernel
theorem dX7_pull_40 : decode cX7_pull 40 = .ok (.aload_n 0, 1) := by decide +kernel
theorem dX7_pull_41 : decode cX7_pull 41 = .ok (.getfield 9, 3) := by decide +kernel
theorem dX7_pull_44 : decode cX7_pull 44 = .ok (.iload 7, 2) := by decide +kernel
theorem dX7_pull_46 : decode cX7_pull 46 = .ok (.isub, 1) := by decide +kernel
theorem dX7_pull_47 : decode cX7_pull 47 = .ok (.invokestatic 111, 3) := by decide +kernel
theorem dX7_pull_50 : decode cX7_pull 50 = .ok (.istore 7, 2) := by decide +kernel
theorem dX7_pull_52 : decode cX7_pull 52 = .ok (.iload 7, 2) := by decide +kernel
theorem dX7_pull_54 : decode cX7_pull 54 = .ok (.iload 5, 2) := by decide +kernel
theorem dX7_pull_56 : decode cX7_pull 56 = .ok (.if_icmp .ge 52, 3) := by decide +kernel
theorem dX7_pull_59 : decode cX7_pull 59 = .ok (.aload_n 0, 1) := by decide +kernel
theorem dX7_pull_60 : decode cX7_pull 60 = .ok (.iload 6, 2) := by decide +kernel
theorem dX7_pull_62 : decode cX7_pull 62 = .ok (.invokevirtual 94, 3) := by decide +kernel
theorem dX7_pull_65 : decode cX7_pull 65 = .ok (.ifCond .ne 43, 3) := by decide +kernel
theorem dX7_pull_68 : decode cX7_pull 68 = .ok (.aload_n 0, 1) := by decide +kernel
theorem dX7_pull_69 : decode cX7_pull 69 = .ok (.getfield 21, 3) := by decide +kernel
theorem dX7_pull_72 : decode cX7_pull 72 = .ok (.iload 6, 2) := by decide +kernel
theorem dX7_pull_74 : decode cX7_pull 74 = .ok (.dup2, 1) := by decide +kernel
theorem dX7_pull_75 : decode cX7_pull 75 = .ok (.iaload, 1) := by decide +kernel
theorem dX7_pull_76 : decode cX7_pull 76 = .ok (.iload_n 2, 1) := by decide +kernel
theorem dX7_pull_77 : decode cX7_pull 77 = .ok (.iload 5, 2) := by decide +kernel
theorem dX7_pull_79 : decode cX7_pull 79 = .ok (.iload 7, 2) := by decide +kernel
theorem dX7_pull_81 : decode cX7_pull 81 = .ok (.isub, 1) := by decide +kernel
theorem dX7_pull_82 : decode cX7_pull 82 = .ok (.imul, 1) := by decide +kernel
theorem dX7_pull_83 : decode cX7_pull 83 = .ok (.iload 5, 2) := by decide +kernel
theorem dX7_pull_85 : decode cX7_pull 85 = .ok (.idiv, 1) := by decide +kernel
theorem dX7_pull_86 : decode cX7_pull 86 = .ok (.iadd, 1) := by decide +kernel
theorem dX7_pull_87 : decode cX7_pull 87 = .ok (.iastore, 1) := by decide +kernel
theorem dX7_pull_88 : decode cX7_pull 88 = .ok (.aload_n 0, 1) := by decide +kernel
theorem dX7_pull_89 : decode cX7_pull 89 = .ok (.getfield 25, 3) := by decide +kernel
theorem dX7_pull_92 : decode cX7_pull 92 = .ok (.iload 6, 2) := by decide +kernel
theorem dX7_pull_94 : decode cX7_pull 94 = .ok (.dup2, 1) := by decide +kernel
theorem dX7_pull_95 : decode cX7_pull 95 = .ok (.iaload, 1) := by decide +kernel
theorem dX7_pull_96 : decode cX7_pull 96 = .ok (.iload_n 3, 1) := by decide +kernel
theorem dX7_pull_97 : decode cX7_pull 97 = .ok (.iload 5, 2) := by decide +kernel
theorem dX7_pull_99 : decode cX7_pull 99 = .ok (.iload 7, 2) := by decide +kernel
theorem dX7_pull_101 : decode cX7_pull 101 = .ok (.isub, 1) := by decide +kernel
theorem dX7_pull_102 : decode cX7_pull 102 = .ok (.imul, 1) := by decide +kernel
theorem dX7_pull_103 : decode cX7_pull 103 = .ok (.iload 5, 2) := by decide +kernel
theorem dX7_pull_105 : decode cX7_pull 105 = .ok (.idiv, 1) := by decide +kernel
theorem dX7_pull_106 : decode cX7_pull 106 = .ok (.iadd, 1) := by decide +kernel
theorem dX7_pull_107 : decode cX7_pull 107 = .ok (.iastore, 1) := by decide +kernel
theorem dX7_pull_108 : decode cX7_pull 108 = .ok (.iinc 6 1, 3) := by decide +kernel
theorem dX7_pull_111 : decode cX7_pull 111 = .ok (.goto (-98), 3) := by decide +kernel
theorem dX7_pull_114 : decode cX7_pull 114 = .ok (.return_, 1) := by decide +kernel
theorem dX8_init_0 : decode cX8_init 0 = .ok (.aload_n 0, 1) := by decide +kernel
theorem dX8_init_1 : decode cX8_init 1 = .ok (.invokespecial 3, 3) := by decide +kernel
theorem dX8_init_4 : decode cX8_init 4 = .ok (.aload_n 0, 1) := by decide +kernel
theorem dX8_init_5 : decode cX8_init 5 = .ok (.sipush 200, 3) := by decide +kernel
theorem dX8_init_8 : decode cX8_init 8 = .ok (.anewarray 9, 3) := by decide +kernel
theorem dX8_init_11 : decode cX8_init 11 = .ok (.putfield 11, 3) := by decide +kernel
theorem dX8_init_14 : decode cX8_init 14 = .ok (.aload_n 0, 1) := by decide +kernel
theorem dX8_init_15 : decode cX8_init 15 = .ok (.iconst 0, 1) := by decide +kernel
theorem dX8_init_16 : decode cX8_init 16 = .ok (.putfield 17, 3) := by decide +kernel
theorem dX8_init_19 : decode cX8_init 19 = .ok (.return_, 1) := by decide +kernel
theorem dX8_isFull_0 : decode cX8_isFull 0 = .ok (.aload_n 0, 1) := by decide +kernel
theorem dX8_isFull_1 : decode cX8_isFull 1 = .ok (.getfield 17, 3) := by decide +kernel
theorem dX8_isFull_4 : decode cX8_isFull 4 = .ok (.aload_n 0, 1) := by decide +kernel
theorem dX8_isFull_5 : decode cX8_isFull 5 = .ok (.getfield 11, 3) := by decide +kernel
theorem dX8_isFull_8 : decode cX8_isFull 8 = .ok (.arraylength, 1) := by decide +kernel
theorem dX8_isFull_9 : decode cX8_isFull 9 = .ok (.if_icmp .lt 7, 3) := by decide +kernel
theorem dX8_isFull_12 : decode cX8_isFull 12 = .ok (.iconst 1, 1) := by decide +kernel
theorem dX8_isFull_13 : decode cX8_isFull 13 = .ok (.goto 4, 3) := by decide +kernel
theorem dX8_isFull_16 : decode cX8_isFull 16 = .ok (.iconst 0, 1) := by decide +kernel
theorem dX8_isFull_17 : decode cX8_isFull 17 = .ok (.ireturn, 1) := by decide +kernel
theorem dX8_add_0 : decode cX8_add 0 = .ok (.aload_n 0, 1) := by decide +kernel
theorem dX8_add_1 : decode cX8_add 1 = .ok (.invokevirtual 21, 3) := by decide +kernel
theorem dX8_add_4 : decode cX8_add 4 = .ok (.ifCond .eq 5, 3) := by decide +kernel
theorem dX8_add_7 : decode cX8_add 7 = .ok (.iconst (-1), 1) := by decide +kernel
theorem dX8_add_8 : decode cX8_add 8 = .ok (.ireturn, 1) := by decide +kernel
theorem dX8_add_9 : decode cX8_add 9 = .ok (.aload_n 0, 1) := by decide +kernel
theorem dX8_add_10 : decode cX8_add 10 = .ok (.getfield 11, 3) := by decide +kernel
theorem dX8_add_13 : decode cX8_add 13 = .ok (.aload_n 0, 1) := by decide +kernel
theorem dX8_add_14 : decode cX8_add 14 = .ok (.getfield 17, 3) := by decide +kernel
theorem dX8_add_17 : decode cX8_add 17 = .ok (.aload_n 1, 1) := by decide +kernel
theorem dX8_add_18 : decode cX8_add 18 = .ok (.aastore, 1) := by decide +kernel
theorem dX8_add_19 : decode cX8_add 19 = .ok (.aload_n 0, 1) := by decide +kernel
theorem dX8_add_20 : decode cX8_add 20 = .ok (.dup, 1) := by decide +kernel
theorem dX8_add_21 : decode cX8_add 21 = .ok (.getfield 17, 3) := by decide +kernel
theorem dX8_add_24 : decode cX8_add 24 = .ok (.iconst 1, 1) := by decide +kernel
theorem dX8_add_25 : decode cX8_add 25 = .ok (.iadd, 1) := by decide +kernel
theorem dX8_add_26 : decode cX8_add 26 = .ok (.putfield 17, 3) := by decide +kernel
theorem dX8_add_29 : decode cX8_add 29 = .ok (.aload_n 0, 1) := by decide +kernel
theorem dX8_add_30 : decode cX8_add 30 = .ok (.getfield 17, 3) := by decide +kernel
theorem dX8_add_33 : decode cX8_add 33 = .ok (.iconst 1, 1) := by decide +kernel
theorem dX8_add_34 : decode cX8_add 34 = .ok (.isub, 1) := by decide +kernel
theorem dX8_add_35 : decode cX8_add 35 = .ok (.ireturn, 1) := by decide +kernel
theorem dX8_removeLast_0 : decode cX8_removeLast 0 = .ok (.aload_n 0, 1) := by decide +kernel
theorem dX8_removeLast_1 : decode cX8_removeLast 1 = .ok (.aload_n 0, 1) := by decide +kernel
theorem dX8_removeLast_2 : decode cX8_removeLast 2 = .ok (.getfield 17, 3) := by decide +kernel
theorem dX8_removeLast_5 : decode cX8_removeLast 5 = .ok (.iconst 1, 1) := by decide +kernel
theorem dX8_removeLast_6 : decode cX8_removeLast 6 = .ok (.isub, 1) := by decide +kernel
theorem dX8_removeLast_7 : decode cX8_removeLast 7 = .ok (.iconst 0, 1) := by decide +kernel
theorem dX8_removeLast_8 : decode cX8_removeLast 8 = .ok (.invokestatic 25, 3) := by decide +kernel
theorem dX8_removeLast_11 : decode cX8_removeLast 11 = .ok (.putfield 17, 3) := by decide +kernel
theorem dX8_removeLast_14 : decode cX8_removeLast 14 = .ok (.return_, 1) := by decide +kernel
theorem dX8_find_0 : decode cX8_find 0 = .ok (.iload_n 1, 1) := by decide +kernel
theorem dX8_find_1 : decode cX8_find 1 = .ok (.ifCond .lt 20, 3) := by decide +kernel
theorem dX8_find_4 : decode cX8_find 4 = .ok (.iload_n 1, 1) := by decide +kernel
theorem dX8_find_5 : decode cX8_find 5 = .ok (.aload_n 0, 1) := by decide +kernel
theorem dX8_find_6 : decode cX8_find 6 = .ok (.getfield 17, 3) := by decide +kernel
theorem dX8_find_9 : decode cX8_find 9 = .ok (.if_icmp .ge 12, 3) := by decide +kernel
theorem dX8_find_12 : decode cX8_find 12 = .ok (.aload_n 0, 1) := by decide +kernel
theorem dX8_find_13 : decode cX8_find 13 = .ok (.getfield 11, 3) := by decide +kernel
theorem dX8_find_16 : decode cX8_find 16 = .ok (.iload_n 1, 1) := by decide +kernel
theorem dX8_find_17 : decode cX8_find 17 = .ok (.aaload, 1) := by decide +kernel
theorem dX8_find_18 : decode cX8_find 18 = .ok (.goto 4, 3) := by decide +kernel
theorem dX8_find_21 : decode cX8_find 21 = .ok (.aconst_null, 1) := by decide +kernel
theorem dX8_find_22 : decode cX8_find 22 = .ok (.areturn, 1) := by decide +kernel
theorem dX8_rowThere_0 : decode cX8_rowThere 0 = .ok (.aload_n 0, 1) := by decide +kernel
theorem dX8_rowThere_1 : decode cX8_rowThere 1 = .ok (.iload_n 1, 1) := by decide +kernel
theorem dX8_rowThere_2 : decode cX8_rowThere 2 = .ok (.invokevirtual 31, 3) := by decide +kernel
theorem dX8_rowThere_5 : decode cX8_rowThere 5 = .ok (.astore_n 2, 1) := by decide +kernel
theorem dX8_rowThere_6 : decode cX8_rowThere 6 = .ok (.aload_n 2, 1) := by decide +kernel
theorem dX8_rowThere_7 : decode cX8_rowThere 7 = .ok (.ifnull 24, 3) := by decide +kernel
theorem dX8_rowThere_10 : decode cX8_rowThere 10 = .ok (.aload_n 2, 1) := by decide +kernel
theorem dX8_rowThere_11 : decode cX8_rowThere 11 = .ok (.getfield 35, 3) := by decide +kernel
theorem dX8_rowThere_14 : decode cX8_rowThere 14 = .ok (.getfield 39, 3) := by decide +kernel
theorem dX8_rowThere_17 : decode cX8_rowThere 17 = .ok (.iconst 1, 1) := by decide +kernel
theorem dX8_rowThere_18 : decode cX8_rowThere 18 = .ok (.if_icmp .ne 13, 3) := by decide +kernel
theorem dX8_rowThere_21 : decode cX8_rowThere 21 = .ok (.aload_n 2, 1) := by decide +kernel
theorem dX8_rowThere_22 : decode cX8_rowThere 22 = .ok (.getfield 35, 3) := by decide +kernel
theorem dX8_rowThere_25 : decode cX8_rowThere 25 = .ok (.getfield 44, 3) := by decide +kernel
theorem dX8_rowThere_28 : decode cX8_rowThere 28 = .ok (.goto 4, 3) := by decide +kernel
theorem dX8_rowThere_31 : decode cX8_rowThere 31 = .ok (.aconst_null, 1) := by decide +kernel
theorem dX8_rowThere_32 : decode cX8_rowThere 32 = .ok (.areturn, 1) := by decide +kernel
theorem dX8_houseThere_0 : decode cX8_houseThere 0 = .ok (.aload_n 0, 1) := by decide +kernel
theorem dX8_houseThere_1 : decode cX8_houseThere 1 = .ok (.iload_n 1, 1) := by decide +kernel
theorem dX8_houseThere_2 : decode cX8_houseThere 2 = .ok (.invokevirtual 31, 3) := by decide +kernel
theorem dX8_houseThere_5 : decode cX8_houseThere 5 = .ok (.astore_n 2, 1) := by decide +kernel
theorem dX8_houseThere_6 : decode cX8_houseThere 6 = .ok (.aload_n 2, 1) := by decide +kernel
theorem dX8_houseThere_7 : decode cX8_houseThere 7 = .ok (.ifnull 23, 3) := by decide +kernel
theorem dX8_houseThere_10 : decode cX8_houseThere 10 = .ok (.aload_n 2, 1) := by decide +kernel
theorem dX8_houseThere_11 : decode cX8_houseThere 11 = .ok (.getfield 35, 3) := by decide +kernel
theorem dX8_houseThere_14 : decode cX8_houseThere 14 = .ok (.getfield 48, 3) := by decide +kernel
theorem dX8_houseThere_17 : decode cX8_houseThere 17 = .ok (.bipush 6, 2) := by decide +kernel
theorem dX8_houseThere_19 : decode cX8_houseThere 19 = .ok (.if_icmp .ne 11, 3) := by decide +kernel
theorem dX8_houseThere_22 : decode cX8_houseThere 22 = .ok (.aload_n 0, 1) := by decide +kernel
theorem dX8_houseThere_23 : decode cX8_houseThere 23 = .ok (.iload_n 1, 1) := by decide +kernel
theorem dX8_houseThere_24 : decode cX8_houseThere 24 = .ok (.invokevirtual 51, 3) := by decide +kernel
theorem dX8_houseThere_27 : decode cX8_houseThere 27 = .ok (.goto 4, 3) := by decide +kernel
theorem dX8_houseThere_30 : decode cX8_houseThere 30 = .ok (.aconst_null, 1) := by decide +kernel
theorem dX8_houseThere_31 : decode cX8_houseThere 31 = .ok (.areturn, 1) := by decide +kernel
theorem dX8_inState_0 : decode cX8_inState 0 = .ok (.iconst 0, 1) := by decide +kernel
theorem dX8_inState_1 : decode cX8_inState 1 = .ok (.istore_n 2, 1) := by decide +kernel
theorem dX8_inState_2 : decode cX8_inState 2 = .ok (.iconst 0, 1) := by decide +kernel
theorem dX8_inState_3 : decode cX8_inState 3 = .ok (.istore_n 3, 1) := by decide +kernel
theorem dX8_inState_4 : decode cX8_inState 4 = .ok (.iload_n 3, 1) := by decide +kernel
theorem dX8_inState_5 : decode cX8_inState 5 = .ok (.aload_n 0, 1) := by decide +kernel
theorem dX8_inState_6 : decode cX8_inState 6 = .ok (.getfield 17, 3) := by decide +kernel
theorem dX8_inState_9 : decode cX8_inState 9 = .ok (.if_icmp .ge 36, 3) := by decide +kernel
theorem dX8_inState_12 : decode cX8_inState 12 = .ok (.aload_n 0, 1) := by decide +kernel
theorem dX8_inState_13 : decode cX8_inState 13 = .ok (.iload_n 3, 1) := by decide +kernel
theorem dX8_inState_14 : decode cX8_inState 14 = .ok (.invokevirtual 31, 3) := by decide +kernel
theorem dX8_inState_17 : decode cX8_inState 17 = .ok (.astore 4, 2) := by decide +kernel
theorem dX8_inState_19 : decode cX8_inState 19 = .ok (.aload 4, 2) := by decide +kernel
theorem dX8_inState_21 : decode cX8_inState 21 = .ok (.ifnull 18, 3) := by decide +kernel
theorem dX8_inState_24 : decode cX8_inState 24 = .ok (.aload 4, 2) := by decide +kernel
theorem dX8_inState_26 : decode cX8_inState 26 = .ok (.getfield 35, 3) := by decide +kernel
theorem dX8_inState_29 : decode cX8_inState 29 = .ok (.getfield 39, 3) := by decide +kernel
theorem dX8_inState_32 : decode cX8_inState 32 = .ok (.iload_n 1, 1) := by decide +kernel
theorem dX8_inState_33 : decode cX8_inState 33 = .ok (.if_icmp .ne 6, 3) := by decide +kernel
theorem dX8_inState_36 : decode cX8_inState 36 = .ok (.iinc 2 1, 3) := by decide +kernel
theorem dX8_inState_39 : decode cX8_inState 39 = .ok (.iinc 3 1, 3) := by decide +kernel
theorem dX8_inState_42 : decode cX8_inState 42 = .ok (.goto (-38), 3) := by decide +kernel
theorem dX8_inState_45 : decode cX8_inState 45 = .ok (.iload_n 2, 1) := by decide +kernel
theorem dX8_inState_46 : decode cX8_inState 46 = .ok (.ireturn, 1) := by decide +kernel
theorem dX8_torn_0 : decode cX8_torn 0 = .ok (.iconst 0, 1) := by decide +kernel
theorem dX8_torn_1 : decode cX8_torn 1 = .ok (.istore_n 1, 1) := by decide +kernel
theorem dX8_torn_2 : decode cX8_torn 2 = .ok (.iconst 0, 1) := by decide +kernel
theorem dX8_torn_3 : decode cX8_torn 3 = .ok (.istore_n 2, 1) := by decide +kernel
theorem dX8_torn_4 : decode cX8_torn 4 = .ok (.iload_n 2, 1) := by decide +kernel
theorem dX8_torn_5 : decode cX8_torn 5 = .ok (.aload_n 0, 1) := by decide +kernel
theorem dX8_torn_6 : decode cX8_torn 6 = .ok (.getfield 17, 3) := by decide +kernel
theorem dX8_torn_9 : decode cX8_torn 9 = .ok (.if_icmp .ge 32, 3) := by decide +kernel
theorem dX8_torn_12 : decode cX8_torn 12 = .ok (.aload_n 0, 1) := by decide +kernel
theorem dX8_torn_13 : decode cX8_torn 13 = .ok (.iload_n 2, 1) := by decide +kernel
theorem dX8_torn_14 : decode cX8_torn 14 = .ok (.invokevirtual 31, 3) := by decide +kernel
theorem dX8_torn_17 : decode cX8_torn 17 = .ok (.astore_n 3, 1) := by decide +kernel
theorem dX8_torn_18 : decode cX8_torn 18 = .ok (.aload_n 3, 1) := by decide +kernel
theorem dX8_torn_19 : decode cX8_torn 19 = .ok (.ifnull 16, 3) := by decide +kernel
theorem dX8_torn_22 : decode cX8_torn 22 = .ok (.aload_n 3, 1) := by decide +kernel
theorem dX8_torn_23 : decode cX8_torn 23 = .ok (.getfield 35, 3) := by decide +kernel
theorem dX8_torn_26 : decode cX8_torn 26 = .ok (.getfield 44, 3) := by decide +kernel
theorem dX8_torn_29 : decode cX8_torn 29 = .ok (.ifnonnull 6, 3) := by decide +kernel
theorem dX8_torn_32 : decode cX8_torn 32 = .ok (.iinc 1 1, 3) := by decide +kernel
theorem dX8_torn_35 : decode cX8_torn 35 = .ok (.iinc 2 1, 3) := by decide +kernel
theorem dX8_torn_38 : decode cX8_torn 38 = .ok (.goto (-34), 3) := by decide +kernel
theorem dX8_torn_41 : decode cX8_torn 41 = .ok (.iload_n 1, 1) := by decide +kernel
theorem dX8_torn_42 : decode cX8_torn 42 = .ok (.ireturn, 1) := by decide +kernel
theorem dX8_cornersThere_0 : decode cX8_cornersThere 0 = .ok (.iconst 0, 1) := by decide +kernel
theorem dX8_cornersThere_1 : decode cX8_cornersThere 1 = .ok (.istore_n 1, 1) := by decide +kernel
theorem dX8_cornersThere_2 : decode cX8_cornersThere 2 = .ok (.iconst 0, 1) := by decide +kernel
theorem dX8_cornersThere_3 : decode cX8_cornersThere 3 = .ok (.istore_n 2, 1) := by decide +kernel
theorem dX8_cornersThere_4 : decode cX8_cornersThere 4 = .ok (.iload_n 2, 1) := by decide +kernel
theorem dX8_cornersThere_5 : decode cX8_cornersThere 5 = .ok (.aload_n 0, 1) := by decide +kernel
theorem dX8_cornersThere_6 : decode cX8_cornersThere 6 = .ok (.getfield 17, 3) := by decide +kernel
theorem dX8_cornersThere_9 : decode cX8_cornersThere 9 = .ok (.if_icmp .ge 30, 3) := by decide +kernel
theorem dX8_cornersThere_12 : decode cX8_cornersThere 12 = .ok (.aload_n 0, 1) := by decide +kernel
theorem dX8_cornersThere_13 : decode cX8_cornersThere 13 = .ok (.iload_n 2, 1) := by decide +kernel
theorem dX8_cornersThere_14 : decode cX8_cornersThere 14 = .ok (.invokevirtual 51, 3) := by decide +kernel
theorem dX8_cornersThere_17 : decode cX8_cornersThere 17 = .ok (.astore_n 3, 1) := by decide +kernel
theorem dX8_cornersThere_18 : decode cX8_cornersThere 18 = .ok (.iload_n 1, 1) := by decide +kernel
theorem dX8_cornersThere_19 : decode cX8_cornersThere 19 = .ok (.aload_n 3, 1) := by decide +kernel
theorem dX8_cornersThere_20 : decode cX8_cornersThere 20 = .ok (.ifnonnull 7, 3) := by decide +kernel
theorem dX8_cornersThere_23 : decode cX8_cornersThere 23 = .ok (.iconst 0, 1) := by decide +kernel
theorem dX8_cornersThere_24 : decode cX8_cornersThere 24 = .ok (.goto 7, 3) := by decide +kernel
theorem dX8_cornersThere_27 : decode cX8_cornersThere 27 = .ok (.aload_n 3, 1) := by decide +kernel
theorem dX8_cornersThere_28 : decode cX8_cornersThere 28 = .ok (.getfield 55, 3) := by decide +kernel
theorem dX8_cornersThere_31 : decode cX8_cornersThere 31 = .ok (.iadd, 1) := by decide +kernel
theorem dX8_cornersThere_32 : decode cX8_cornersThere 32 = .ok (.istore_n 1, 1) := by decide +kernel
theorem dX8_cornersThere_33 : decode cX8_cornersThere 33 = .ok (.iinc 2 1, 3) := by decide +kernel
theorem dX8_cornersThere_36 : decode cX8_cornersThere 36 = .ok (.goto (-32), 3) := by decide +kernel
theorem dX8_cornersThere_39 : decode cX8_cornersThere 39 = .ok (.iload_n 1, 1) := by decide +kernel
theorem dX8_cornersThere_40 : decode cX8_cornersThere 40 = .ok (.ireturn, 1) := by decide +kernel
theorem dX9_init_0 : decode cX9_init 0 = .ok (.aload_n 0, 1) := by decide +kernel
theorem dX9_init_1 : decode cX9_init 1 = .ok (.invokespecial 1, 3) := by decide +kernel
theorem dX9_init_4 : decode cX9_init 4 = .ok (.aload_n 0, 1) := by decide +kernel
theorem dX9_init_5 : decode cX9_init 5 = .ok (.aconst_null, 1) := by decide +kernel
theorem dX9_init_6 : decode cX9_init 6 = .ok (.putfield 7, 3) := by decide +kernel
theorem dX9_init_9 : decode cX9_init 9 = .ok (.aload_n 0, 1) := by decide +kernel
theorem dX9_init_10 : decode cX9_init 10 = .ok (.iload_n 1, 1) := by decide +kernel
theorem dX9_init_11 : decode cX9_init 11 = .ok (.putfield 13, 3) := by decide +kernel
theorem dX9_init_14 : decode cX9_init 14 = .ok (.aload_n 0, 1) := by decide +kernel
theorem dX9_init_15 : decode cX9_init 15 = .ok (.iload_n 2, 1) := by decide +kernel
theorem dX9_init_16 : decode cX9_init 16 = .ok (.putfield 17, 3) := by decide +kernel
theorem dX9_init_19 : decode cX9_init 19 = .ok (.aload_n 0, 1) := by decide +kernel
theorem dX9_init_20 : decode cX9_init 20 = .ok (.iload_n 3, 1) := by decide +kernel
theorem dX9_init_21 : decode cX9_init 21 = .ok (.putfield 20, 3) := by decide +kernel
theorem dX9_init_24 : decode cX9_init 24 = .ok (.aload_n 0, 1) := by decide +kernel
theorem dX9_init_25 : decode cX9_init 25 = .ok (.aload 4, 2) := by decide +kernel
theorem dX9_init_27 : decode cX9_init 27 = .ok (.putfield 23, 3) := by decide +kernel
theorem dX9_init_30 : decode cX9_init 30 = .ok (.return_, 1) := by decide +kernel
theorem dX9_takeBack_0 : decode cX9_takeBack 0 = .ok (.aload_n 0, 1) := by decide +kernel
theorem dX9_takeBack_1 : decode cX9_takeBack 1 = .ok (.getfield 7, 3) := by decide +kernel
theorem dX9_takeBack_4 : decode cX9_takeBack 4 = .ok (.astore_n 1, 1) := by decide +kernel
theorem dX9_takeBack_5 : decode cX9_takeBack 5 = .ok (.aload_n 1, 1) := by decide +kernel
theorem dX9_takeBack_6 : decode cX9_takeBack 6 = .ok (.ifnull 22, 3) := by decide +kernel
theorem dX9_takeBack_9 : decode cX9_takeBack 9 = .ok (.aload_n 1, 1) := by decide +kernel
theorem dX9_takeBack_10 : decode cX9_takeBack 10 = .ok (.getfield 27, 3) := by decide +kernel
theorem dX9_takeBack_13 : decode cX9_takeBack 13 = .ok (.aload_n 1, 1) := by decide +kernel
theorem dX9_takeBack_14 : decode cX9_takeBack 14 = .ok (.getfield 32, 3) := by decide +kernel
theorem dX9_takeBack_17 : decode cX9_takeBack 17 = .ok (.putfield 36, 3) := by decide +kernel
theorem dX9_takeBack_20 : decode cX9_takeBack 20 = .ok (.aload_n 1, 1) := by decide +kernel
theorem dX9_takeBack_21 : decode cX9_takeBack 21 = .ok (.getfield 41, 3) := by decide +kernel
theorem dX9_takeBack_24 : decode cX9_takeBack 24 = .ok (.astore_n 1, 1) := by decide +kernel
theorem dX9_takeBack_25 : decode cX9_takeBack 25 = .ok (.goto (-20), 3) := by decide +kernel
theorem dX9_takeBack_28 : decode cX9_takeBack 28 = .ok (.return_, 1) := by decide +kernel
theorem dX9_repeat_0 : decode cX9_repeat 0 = .ok (.aload_n 0, 1) := by decide +kernel
theorem dX9_repeat_1 : decode cX9_repeat 1 = .ok (.getfield 7, 3) := by decide +kernel
theorem dX9_repeat_4 : decode cX9_repeat 4 = .ok (.astore_n 1, 1) := by decide +kernel
theorem dX9_repeat_5 : decode cX9_repeat 5 = .ok (.aload_n 1, 1) := by decide +kernel
theorem dX9_repeat_6 : decode cX9_repeat 6 = .ok (.ifnull 22, 3) := by decide +kernel
theorem dX9_repeat_9 : decode cX9_repeat 9 = .ok (.aload_n 1, 1) := by decide +kernel
theorem dX9_repeat_10 : decode cX9_repeat 10 = .ok (.getfield 27, 3) := by decide +kernel
theorem dX9_repeat_13 : decode cX9_repeat 13 = .ok (.aload_n 1, 1) := by decide +kernel
theorem dX9_repeat_14 : decode cX9_repeat 14 = .ok (.getfield 44, 3) := by decide +kernel
theorem dX9_repeat_17 : decode cX9_repeat 17 = .ok (.putfield 36, 3) := by decide +kernel
theorem dX9_repeat_20 : decode cX9_repeat 20 = .ok (.aload_n 1, 1) := by decide +kernel
theorem dX9_repeat_21 : decode cX9_repeat 21 = .ok (.getfield 41, 3) := by decide +kernel
theorem dX9_repeat_24 : decode cX9_repeat 24 = .ok (.astore_n 1, 1) := by decide +kernel
theorem dX9_repeat_25 : decode cX9_repeat 25 = .ok (.goto (-20), 3) := by decide +kernel
theorem dX9_repeat_28 : decode cX9_repeat 28 = .ok (.return_, 1) := by decide +kernel
theorem dX10_init_0 : decode cX10_init 0 = .ok (.aload_n 0, 1) := by decide +kernel
theorem dX10_init_1 : decode cX10_init 1 = .ok (.invokespecial 3, 3) := by decide +kernel
theorem dX10_init_4 : decode cX10_init 4 = .ok (.aload_n 0, 1) := by decide +kernel
theorem dX10_init_5 : decode cX10_init 5 = .ok (.new 9, 3) := by decide +kernel
theorem dX10_init_8 : decode cX10_init 8 = .ok (.dup, 1) := by decide +kernel
theorem dX10_init_9 : decode cX10_init 9 = .ok (.invokespecial 11, 3) := by decide +kernel
theorem dX10_init_12 : decode cX10_init 12 = .ok (.putfield 12, 3) := by decide +kernel
theorem dX10_init_15 : decode cX10_init 15 = .ok (.aload_n 0, 1) := by decide +kernel
theorem dX10_init_16 : decode cX10_init 16 = .ok (.new 16, 3) := by decide +kernel
theorem dX10_init_19 : decode cX10_init 19 = .ok (.dup, 1) := by decide +kernel
theorem dX10_init_20 : decode cX10_init 20 = .ok (.invokespecial 18, 3) := by decide +kernel
theorem dX10_init_23 : decode cX10_init 23 = .ok (.putfield 19, 3) := by decide +kernel
theorem dX10_init_26 : decode cX10_init 26 = .ok (.aload_n 0, 1) := by decide +kernel
theorem dX10_init_27 : decode cX10_init 27 = .ok (.new 23, 3) := by decide +kernel
theorem dX10_init_30 : decode cX10_init 30 = .ok (.dup, 1) := by decide +kernel
theorem dX10_init_31 : decode cX10_init 31 = .ok (.invokespecial 25, 3) := by decide +kernel
theorem dX10_init_34 : decode cX10_init 34 = .ok (.putfield 26, 3) := by decide +kernel
theorem dX10_init_37 : decode cX10_init 37 = .ok (.aload_n 0, 1) := by decide +kernel
theorem dX10_init_38 : decode cX10_init 38 = .ok (.new 30, 3) := by decide +kernel
theorem dX10_init_41 : decode cX10_init 41 = .ok (.dup, 1) := by decide +kernel
theorem dX10_init_42 : decode cX10_init 42 = .ok (.invokespecial 32, 3) := by decide +kernel
theorem dX10_init_45 : decode cX10_init 45 = .ok (.putfield 33, 3) := by decide +kernel
theorem dX10_init_48 : decode cX10_init 48 = .ok (.aload_n 0, 1) := by decide +kernel
theorem dX10_init_49 : decode cX10_init 49 = .ok (.new 30, 3) := by decide +kernel
theorem dX10_init_52 : decode cX10_init 52 = .ok (.dup, 1) := by decide +kernel
theorem dX10_init_53 : decode cX10_init 53 = .ok (.invokespecial 32, 3) := by decide +kernel
theorem dX10_init_56 : decode cX10_init 56 = .ok (.putfield 37, 3) := by decide +kernel
theorem dX10_init_59 : decode cX10_init 59 = .ok (.aload_n 0, 1) := by decide +kernel
theorem dX10_init_60 : decode cX10_init 60 = .ok (.new 40, 3) := by decide +kernel
theorem dX10_init_63 : decode cX10_init 63 = .ok (.dup, 1) := by decide +kernel
theorem dX10_init_64 : decode cX10_init 64 = .ok (.invokespecial 42, 3) := by decide +kernel
theorem dX10_init_67 : decode cX10_init 67 = .ok (.putfield 43, 3) := by decide +kernel
theorem dX10_init_70 : decode cX10_init 70 = .ok (.aload_n 0, 1) := by decide +kernel
theorem dX10_init_71 : decode cX10_init 71 = .ok (.new 40, 3) := by decide +kernel
theorem dX10_init_74 : decode cX10_init 74 = .ok (.dup, 1) := by decide +kernel
theorem dX10_init_75 : decode cX10_init 75 = .ok (.invokespecial 42, 3) := by decide +kernel
theorem dX10_init_78 : decode cX10_init 78 = .ok (.putfield 47, 3) := by decide +kernel
theorem dX10_init_81 : decode cX10_init 81 = .ok (.aload_n 0, 1) := by decide +kernel
theorem dX10_init_82 : decode cX10_init 82 = .ok (.sipush 200, 3) := by decide +kernel
theorem dX10_init_85 : decode cX10_init 85 = .ok (.newarray .boolean, 2) := by decide +kernel
theorem dX10_init_87 : decode cX10_init 87 = .ok (.putfield 50, 3) := by decide +kernel
theorem dX10_init_90 : decode cX10_init 90 = .ok (.aload_n 0, 1) := by decide +kernel
theorem dX10_init_91 : decode cX10_init 91 = .ok (.new 54, 3) := by decide +kernel
theorem dX10_init_94 : decode cX10_init 94 = .ok (.dup, 1) := by decide +kernel
theorem dX10_init_95 : decode cX10_init 95 = .ok (.invokespecial 56, 3) := by decide +kernel
theorem dX10_init_98 : decode cX10_init 98 = .ok (.putfield 57, 3) := by decide +kernel
theorem dX10_init_101 : decode cX10_init 101 = .ok (.aload_n 0, 1) := by decide +kernel
theorem dX10_init_102 : decode cX10_init 102 = .ok (.iconst 0, 1) := by decide +kernel
theorem dX10_init_103 : decode cX10_init 103 = .ok (.putfield 61, 3) := by decide +kernel
theorem dX10_init_106 : decode cX10_init 106 = .ok (.aload_n 0, 1) := by decide +kernel
theorem dX10_init_107 : decode cX10_init 107 = .ok (.iconst 0, 1) := by decide +kernel
theorem dX10_init_108 : decode cX10_init 108 = .ok (.putfield 65, 3) := by decide +kernel
theorem dX10_init_111 : decode cX10_init 111 = .ok (.aload_n 0, 1) := by decide +kernel
theorem dX10_init_112 : decode cX10_init 112 = .ok (.iconst 0, 1) := by decide +kernel
theorem dX10_init_113 : decode cX10_init 113 = .ok (.putfield 68, 3) := by decide +kernel
theorem dX10_init_116 : decode cX10_init 116 = .ok (.aload_n 0, 1) := by decide +kernel
theorem dX10_init_117 : decode cX10_init 117 = .ok (.iconst 0, 1) := by decide +kernel
theorem dX10_init_118 : decode cX10_init 118 = .ok (.putfield 71, 3) := by decide +kernel
theorem dX10_init_121 : decode cX10_init 121 = .ok (.return_, 1) := by decide +kernel
theorem dX10_feature_0 : decode cX10_feature 0 = .ok (.iload_n 1, 1) := by decide +kernel
theorem dX10_feature_1 : decode cX10_feature 1 = .ok (.iconst 0, 1) := by decide +kernel
theorem dX10_feature_2 : decode cX10_feature 2 = .ok (.bipush 6, 2) := by decide +kernel
theorem dX10_feature_4 : decode cX10_feature 4 = .ok (.invokestatic 74, 3) := by decide +kernel
theorem dX10_feature_7 : decode cX10_feature 7 = .ok (.ifCond .eq 13, 3) := by decide +kernel
theorem dX10_feature_10 : decode cX10_feature 10 = .ok (.iload_n 2, 1) := by decide +kernel
theorem dX10_feature_11 : decode cX10_feature 11 = .ok (.iconst 0, 1) := by decide +kernel
theorem dX10_feature_12 : decode cX10_feature 12 = .ok (.bipush 9, 2) := by decide +kernel
theorem dX10_feature_14 : decode cX10_feature 14 = .ok (.invokestatic 74, 3) := by decide +kernel
theorem dX10_feature_17 : decode cX10_feature 17 = .ok (.ifCond .ne 9, 3) := by decide +kernel
theorem dX10_feature_20 : decode cX10_feature 20 = .ok (.aload_n 0, 1) := by decide +kernel
theorem dX10_feature_21 : decode cX10_feature 21 = .ok (.iconst 4, 1) := by decide +kernel
theorem dX10_feature_22 : decode cX10_feature 22 = .ok (.invokevirtual 78, 3) := by decide +kernel
theorem dX10_feature_25 : decode cX10_feature 25 = .ok (.ireturn, 1) := by decide +kernel
theorem dX10_feature_26 : decode cX10_feature 26 = .ok (.iload_n 3, 1) := by decide +kernel
theorem dX10_feature_27 : decode cX10_feature 27 = .ok (.iconst 0, 1) := by decide +kernel
theorem dX10_feature_28 : decode cX10_feature 28 = .ok (.bipush 100, 2) := by decide +kernel
theorem dX10_feature_30 : decode cX10_feature 30 = .ok (.invokestatic 74, 3) := by decide +kernel
theorem dX10_feature_33 : decode cX10_feature 33 = .ok (.ifCond .eq 14, 3) := by decide +kernel
theorem dX10_feature_36 : decode cX10_feature 36 = .ok (.iload 4, 2) := by decide +kernel
theorem dX10_feature_38 : decode cX10_feature 38 = .ok (.iconst 0, 1) := by decide +kernel
theorem dX10_feature_39 : decode cX10_feature 39 = .ok (.bipush 9, 2) := by decide +kernel
theorem dX10_feature_41 : decode cX10_feature 41 = .ok (.invokestatic 74, 3) := by decide +kernel
theorem dX10_feature_44 : decode cX10_feature 44 = .ok (.ifCond .ne 9, 3) := by decide +kernel
theorem dX10_feature_47 : decode cX10_feature 47 = .ok (.aload_n 0, 1) := by decide +kernel
theorem dX10_feature_48 : decode cX10_feature 48 = .ok (.iconst 4, 1) := by decide +kernel
theorem dX10_feature_49 : decode cX10_feature 49 = .ok (.invokevirtual 78, 3) := by decide +kernel
theorem dX10_feature_52 : decode cX10_feature 52 = .ok (.ireturn, 1) := by decide +kernel
theorem dX10_feature_53 : decode cX10_feature 53 = .ok (.aload_n 0, 1) := by decide +kernel
theorem dX10_feature_54 : decode cX10_feature 54 = .ok (.getfield 12, 3) := by decide +kernel
theorem dX10_feature_57 : decode cX10_feature 57 = .ok (.invokevirtual 82, 3) := by decide +kernel
theorem dX10_feature_60 : decode cX10_feature 60 = .ok (.ifCond .eq 10, 3) := by decide +kernel
theorem dX10_feature_63 : decode cX10_feature 63 = .ok (.aload_n 0, 1) := by decide +kernel
theorem dX10_feature_64 : decode cX10_feature 64 = .ok (.bipush 8, 2) := by decide +kernel
theorem dX10_feature_66 : decode cX10_feature 66 = .ok (.invokevirtual 78, 3) := by decide +kernel
theorem dX10_feature_69 : decode cX10_feature 69 = .ok (.ireturn, 1) := by decide +kernel
theorem dX10_feature_70 : decode cX10_feature 70 = .ok (.new 86, 3) := by decide +kernel
theorem dX10_feature_73 : decode cX10_feature 73 = .ok (.dup, 1) := by decide +kernel
theorem dX10_feature_74 : decode cX10_feature 74 = .ok (.iload_n 1, 1) := by decide +kernel
theorem dX10_feature_75 : decode cX10_feature 75 = .ok (.iload_n 2, 1) := by decide +kernel
theorem dX10_feature_76 : decode cX10_feature 76 = .ok (.iload_n 3, 1) := by decide +kernel
theorem dX10_feature_77 : decode cX10_feature 77 = .ok (.iload 4, 2) := by decide +kernel
theorem dX10_feature_79 : decode cX10_feature 79 = .ok (.invokespecial 88, 3) := by decide +kernel
theorem dX10_feature_82 : decode cX10_feature 82 = .ok (.astore 5, 2) := by decide +kernel
theorem dX10_feature_84 : decode cX10_feature 84 = .ok (.aload 5, 2) := by decide +kernel
theorem dX10_feature_86 : decode cX10_feature 86 = .ok (.getfield 91, 3) := by decide +kernel
theorem dX10_feature_89 : decode cX10_feature 89 = .ok (.new 95, 3) := by decide +kernel
theorem dX10_feature_92 : decode cX10_feature 92 = .ok (.dup, 1) := by decide +kernel
theorem dX10_feature_93 : decode cX10_feature 93 = .ok (.iload_n 1, 1) := by decide +kernel
theorem dX10_feature_94 : decode cX10_feature 94 = .ok (.invokestatic 97, 3) := by decide +kernel
theorem dX10_feature_97 : decode cX10_feature 97 = .ok (.iload_n 1, 1) := by decide +kernel
theorem dX10_feature_98 : decode cX10_feature 98 = .ok (.iconst 5, 1) := by decide +kernel
theorem dX10_feature_99 : decode cX10_feature 99 = .ok (.if_icmp .lt 7, 3) := by decide +kernel
theorem dX10_feature_102 : decode cX10_feature 102 = .ok (.iconst 1, 1) := by decide +kernel
theorem dX10_feature_103 : decode cX10_feature 103 = .ok (.goto 4, 3) := by decide +kernel
theorem dX10_feature_106 : decode cX10_feature 106 = .ok (.iconst 0, 1) := by decide +kernel
theorem dX10_feature_107 : decode cX10_feature 107 = .ok (.invokespecial 100, 3) := by decide +kernel
theorem dX10_feature_110 : decode cX10_feature 110 = .ok (.putfield 103, 3) := by decide +kernel
theorem dX10_feature_113 : decode cX10_feature 113 = .ok (.aload_n 0, 1) := by decide +kernel
theorem dX10_feature_114 : decode cX10_feature 114 = .ok (.invokevirtual 109, 3) := by decide +kernel
theorem dX10_feature_117 : decode cX10_feature 117 = .ok (.pop, 1) := by decide +kernel
theorem dX10_feature_118 : decode cX10_feature 118 = .ok (.aload_n 0, 1) := by decide +kernel
theorem dX10_feature_119 : decode cX10_feature 119 = .ok (.getfield 12, 3) := by decide +kernel
theorem dX10_feature_122 : decode cX10_feature 122 = .ok (.aload 5, 2) := by decide +kernel
theorem dX10_feature_124 : decode cX10_feature 124 = .ok (.invokevirtual 112, 3) := by decide +kernel
theorem dX10_feature_127 : decode cX10_feature 127 = .ok (.ireturn, 1) := by decide +kernel
theorem dX10_corner_0 : decode cX10_corner 0 = .ok (.aload_n 0, 1) := by decide +kernel
theorem dX10_corner_1 : decode cX10_corner 1 = .ok (.getfield 12, 3) := by decide +kernel
theorem dX10_corner_4 : decode cX10_corner 4 = .ok (.iload_n 1, 1) := by decide +kernel
theorem dX10_corner_5 : decode cX10_corner 5 = .ok (.invokevirtual 116, 3) := by decide +kernel
theorem dX10_corner_8 : decode cX10_corner 8 = .ok (.astore 4, 2) := by decide +kernel
theorem dX10_corner_10 : decode cX10_corner 10 = .ok (.aload 4, 2) := by decide +kernel
theorem dX10_corner_12 : decode cX10_corner 12 = .ok (.ifnonnull 9, 3) := by decide +kernel
theorem dX10_corner_15 : decode cX10_corner 15 = .ok (.aload_n 0, 1) := by decide +kernel
theorem dX10_corner_16 : decode cX10_corner 16 = .ok (.iconst 1, 1) := by decide +kernel
theorem dX10_corner_17 : decode cX10_corner 17 = .ok (.invokevirtual 78, 3) := by decide +kernel
theorem dX10_corner_20 : decode cX10_corner 20 = .ok (.ireturn, 1) := by decide +kernel
theorem dX10_corner_21 : decode cX10_corner 21 = .ok (.aload 4, 2) := by decide +kernel
theorem dX10_corner_23 : decode cX10_corner 23 = .ok (.getfield 91, 3) := by decide +kernel
theorem dX10_corner_26 : decode cX10_corner 26 = .ok (.getfield 120, 3) := by decide +kernel
theorem dX10_corner_29 : decode cX10_corner 29 = .ok (.ifCond .eq 9, 3) := by decide +kernel
theorem dX10_corner_32 : decode cX10_corner 32 = .ok (.aload_n 0, 1) := by decide +kernel
theorem dX10_corner_33 : decode cX10_corner 33 = .ok (.iconst 2, 1) := by decide +kernel
theorem dX10_corner_34 : decode cX10_corner 34 = .ok (.invokevirtual 78, 3) := by decide +kernel
theorem dX10_corner_37 : decode cX10_corner 37 = .ok (.ireturn, 1) := by decide +kernel
theorem dX10_corner_38 : decode cX10_corner 38 = .ok (.iload_n 2, 1) := by decide +kernel
theorem dX10_corner_39 : decode cX10_corner 39 = .ok (.iload_n 3, 1) := by decide +kernel
theorem dX10_corner_40 : decode cX10_corner 40 = .ok (.invokestatic 123, 3) := by decide +kernel
theorem dX10_corner_43 : decode cX10_corner 43 = .ok (.ifCond .ne 9, 3) := by decide +kernel
theorem dX10_corner_46 : decode cX10_corner 46 = .ok (.aload_n 0, 1) := by decide +kernel
theorem dX10_corner_47 : decode cX10_corner 47 = .ok (.iconst 4, 1) := by decide +kernel
theorem dX10_corner_48 : decode cX10_corner 48 = .ok (.invokevirtual 78, 3) := by decide +kernel
theorem dX10_corner_51 : decode cX10_corner 51 = .ok (.ireturn, 1) := by decide +kernel
theorem dX10_corner_52 : decode cX10_corner 52 = .ok (.aload 4, 2) := by decide +kernel
theorem dX10_corner_54 : decode cX10_corner 54 = .ok (.getfield 91, 3) := by decide +kernel
theorem dX10_corner_57 : decode cX10_corner 57 = .ok (.getfield 103, 3) := by decide +kernel
theorem dX10_corner_60 : decode cX10_corner 60 = .ok (.astore 5, 2) := by decide +kernel
theorem dX10_corner_62 : decode cX10_corner 62 = .ok (.aload 5, 2) := by decide +kernel
theorem dX10_corner_64 : decode cX10_corner 64 = .ok (.ifnonnull 9, 3) := by decide +kernel
theorem dX10_corner_67 : decode cX10_corner 67 = .ok (.aload_n 0, 1) := by decide +kernel
theorem dX10_corner_68 : decode cX10_corner 68 = .ok (.iconst 5, 1) := by decide +kernel
theorem dX10_corner_69 : decode cX10_corner 69 = .ok (.invokevirtual 78, 3) := by decide +kernel
theorem dX10_corner_72 : decode cX10_corner 72 = .ok (.ireturn, 1) := by decide +kernel
theorem dX10_corner_73 : decode cX10_corner 73 = .ok (.aload 5, 2) := by decide +kernel
theorem dX10_corner_75 : decode cX10_corner 75 = .ok (.getfield 127, 3) := by decide +kernel
theorem dX10_corner_78 : decode cX10_corner 78 = .ok (.aload 4, 2) := by decide +kernel
theorem dX10_corner_80 : decode cX10_corner 80 = .ok (.getfield 91, 3) := by decide +kernel
theorem dX10_corner_83 : decode cX10_corner 83 = .ok (.getfield 130, 3) := by decide +kernel
theorem dX10_corner_86 : decode cX10_corner 86 = .ok (.invokestatic 97, 3) := by decide +kernel
theorem dX10_corner_89 : decode cX10_corner 89 = .ok (.if_icmp .lt 10, 3) := by decide +kernel
theorem dX10_corner_92 : decode cX10_corner 92 = .ok (.aload_n 0, 1) := by decide +kernel
theorem dX10_corner_93 : decode cX10_corner 93 = .ok (.bipush 6, 2) := by decide +kernel
theorem dX10_corner_95 : decode cX10_corner 95 = .ok (.invokevirtual 78, 3) := by decide +kernel
theorem dX10_corner_98 : decode cX10_corner 98 = .ok (.ireturn, 1) := by decide +kernel
theorem dX10_corner_99 : decode cX10_corner 99 = .ok (.aload 5, 2) := by decide +kernel
theorem dX10_corner_101 : decode cX10_corner 101 = .ok (.iload_n 2, 1) := by decide +kernel
theorem dX10_corner_102 : decode cX10_corner 102 = .ok (.iload_n 3, 1) := by decide +kernel
theorem dX10_corner_103 : decode cX10_corner 103 = .ok (.invokevirtual 133, 3) := by decide +kernel
theorem dX10_corner_106 : decode cX10_corner 106 = .ok (.aload_n 0, 1) := by decide +kernel
theorem dX10_corner_107 : decode cX10_corner 107 = .ok (.iconst 0, 1) := by decide +kernel
theorem dX10_corner_108 : decode cX10_corner 108 = .ok (.putfield 71, 3) := by decide +kernel
theorem dX10_corner_111 : decode cX10_corner 111 = .ok (.aload 5, 2) := by decide +kernel
theorem dX10_corner_113 : decode cX10_corner 113 = .ok (.getfield 127, 3) := by decide +kernel
theorem dX10_corner_116 : decode cX10_corner 116 = .ok (.ireturn, 1) := by decide +kernel
theorem dX10_tear_0 : decode cX10_tear 0 = .ok (.aload_n 0, 1) := by decide +kernel
theorem dX10_tear_1 : decode cX10_tear 1 = .ok (.getfield 12, 3) := by decide +kernel
theorem dX10_tear_4 : decode cX10_tear 4 = .ok (.iload_n 1, 1) := by decide +kernel
theorem dX10_tear_5 : decode cX10_tear 5 = .ok (.invokevirtual 116, 3) := by decide +kernel
theorem dX10_tear_8 : decode cX10_tear 8 = .ok (.astore_n 2, 1) := by decide +kernel
theorem dX10_tear_9 : decode cX10_tear 9 = .ok (.aload_n 2, 1) := by decide +kernel
theorem dX10_tear_10 : decode cX10_tear 10 = .ok (.ifnonnull 9, 3) := by decide +kernel
theorem dX10_tear_13 : decode cX10_tear 13 = .ok (.aload_n 0, 1) := by decide +kernel
theorem dX10_tear_14 : decode cX10_tear 14 = .ok (.iconst 1, 1) := by decide +kernel
theorem dX10_tear_15 : decode cX10_tear 15 = .ok (.invokevirtual 137, 3) := by decide +kernel
theorem dX10_tear_18 : decode cX10_tear 18 = .ok (.ireturn, 1) := by decide +kernel
theorem dX10_tear_19 : decode cX10_tear 19 = .ok (.aload_n 2, 1) := by decide +kernel
theorem dX10_tear_20 : decode cX10_tear 20 = .ok (.getfield 91, 3) := by decide +kernel
theorem dX10_tear_23 : decode cX10_tear 23 = .ok (.getfield 120, 3) := by decide +kernel
theorem dX10_tear_26 : decode cX10_tear 26 = .ok (.iconst 2, 1) := by decide +kernel
theorem dX10_tear_27 : decode cX10_tear 27 = .ok (.if_icmp .ne 9, 3) := by decide +kernel
theorem dX10_tear_30 : decode cX10_tear 30 = .ok (.aload_n 0, 1) := by decide +kernel
theorem dX10_tear_31 : decode cX10_tear 31 = .ok (.iconst 2, 1) := by decide +kernel
theorem dX10_tear_32 : decode cX10_tear 32 = .ok (.invokevirtual 137, 3) := by decide +kernel
theorem dX10_tear_35 : decode cX10_tear 35 = .ok (.ireturn, 1) := by decide +kernel
theorem dX10_tear_36 : decode cX10_tear 36 = .ok (.aload_n 2, 1) := by decide +kernel
theorem dX10_tear_37 : decode cX10_tear 37 = .ok (.getfield 91, 3) := by decide +kernel
theorem dX10_tear_40 : decode cX10_tear 40 = .ok (.getfield 103, 3) := by decide +kernel
theorem dX10_tear_43 : decode cX10_tear 43 = .ok (.ifnonnull 9, 3) := by decide +kernel
theorem dX10_tear_46 : decode cX10_tear 46 = .ok (.aload_n 0, 1) := by decide +kernel
theorem dX10_tear_47 : decode cX10_tear 47 = .ok (.iconst 5, 1) := by decide +kernel
theorem dX10_tear_48 : decode cX10_tear 48 = .ok (.invokevirtual 137, 3) := by decide +kernel
theorem dX10_tear_51 : decode cX10_tear 51 = .ok (.ireturn, 1) := by decide +kernel
theorem dX10_tear_52 : decode cX10_tear 52 = .ok (.aload_n 2, 1) := by decide +kernel
theorem dX10_tear_53 : decode cX10_tear 53 = .ok (.getfield 91, 3) := by decide +kernel
theorem dX10_tear_56 : decode cX10_tear 56 = .ok (.aconst_null, 1) := by decide +kernel
theorem dX10_tear_57 : decode cX10_tear 57 = .ok (.putfield 103, 3) := by decide +kernel
theorem dX10_tear_60 : decode cX10_tear 60 = .ok (.aload_n 0, 1) := by decide +kernel
theorem dX10_tear_61 : decode cX10_tear 61 = .ok (.invokevirtual 109, 3) := by decide +kernel
theorem dX10_tear_64 : decode cX10_tear 64 = .ok (.ireturn, 1) := by decide +kernel
theorem dX10_done_0 : decode cX10_done 0 = .ok (.aload_n 0, 1) := by decide +kernel
theorem dX10_done_1 : decode cX10_done 1 = .ok (.getfield 12, 3) := by decide +kernel
theorem dX10_done_4 : decode cX10_done 4 = .ok (.iload_n 1, 1) := by decide +kernel
theorem dX10_done_5 : decode cX10_done 5 = .ok (.invokevirtual 116, 3) := by decide +kernel
theorem dX10_done_8 : decode cX10_done 8 = .ok (.astore_n 2, 1) := by decide +kernel
theorem dX10_done_9 : decode cX10_done 9 = .ok (.aload_n 2, 1) := by decide +kernel
theorem dX10_done_10 : decode cX10_done 10 = .ok (.ifnonnull 9, 3) := by decide +kernel
theorem dX10_done_13 : decode cX10_done 13 = .ok (.aload_n 0, 1) := by decide +kernel
theorem dX10_done_14 : decode cX10_done 14 = .ok (.iconst 1, 1) := by decide +kernel
theorem dX10_done_15 : decode cX10_done 15 = .ok (.invokevirtual 137, 3) := by decide +kernel
theorem dX10_done_18 : decode cX10_done 18 = .ok (.ireturn, 1) := by decide +kernel
theorem dX10_done_19 : decode cX10_done 19 = .ok (.aload_n 2, 1) := by decide +kernel
theorem dX10_done_20 : decode cX10_done 20 = .ok (.getfield 91, 3) := by decide +kernel
theorem dX10_done_23 : decode cX10_done 23 = .ok (.getfield 120, 3) := by decide +kernel
theorem dX10_done_26 : decode cX10_done 26 = .ok (.ifCond .eq 9, 3) := by decide +kernel
theorem dX10_done_29 : decode cX10_done 29 = .ok (.aload_n 0, 1) := by decide +kernel
theorem dX10_done_30 : decode cX10_done 30 = .ok (.iconst 2, 1) := by decide +kernel
theorem dX10_done_31 : decode cX10_done 31 = .ok (.invokevirtual 137, 3) := by decide +kernel
theorem dX10_done_34 : decode cX10_done 34 = .ok (.ireturn, 1) := by decide +kernel
theorem dX10_done_35 : decode cX10_done 35 = .ok (.aload_n 2, 1) := by decide +kernel
theorem dX10_done_36 : decode cX10_done 36 = .ok (.getfield 91, 3) := by decide +kernel
theorem dX10_done_39 : decode cX10_done 39 = .ok (.getfield 103, 3) := by decide +kernel
theorem dX10_done_42 : decode cX10_done 42 = .ok (.astore_n 3, 1) := by decide +kernel
theorem dX10_done_43 : decode cX10_done 43 = .ok (.aload_n 3, 1) := by decide +kernel
theorem dX10_done_44 : decode cX10_done 44 = .ok (.ifnonnull 9, 3) := by decide +kernel
theorem dX10_done_47 : decode cX10_done 47 = .ok (.aload_n 0, 1) := by decide +kernel
theorem dX10_done_48 : decode cX10_done 48 = .ok (.iconst 5, 1) := by decide +kernel
theorem dX10_done_49 : decode cX10_done 49 = .ok (.invokevirtual 137, 3) := by decide +kernel
theorem dX10_done_52 : decode cX10_done 52 = .ok (.ireturn, 1) := by decide +kernel
theorem dX10_done_53 : decode cX10_done 53 = .ok (.aload_n 3, 1) := by decide +kernel
theorem dX10_done_54 : decode cX10_done 54 = .ok (.getfield 127, 3) := by decide +kernel
theorem dX10_done_57 : decode cX10_done 57 = .ok (.aload_n 2, 1) := by decide +kernel
theorem dX10_done_58 : decode cX10_done 58 = .ok (.getfield 91, 3) := by decide +kernel
theorem dX10_done_61 : decode cX10_done 61 = .ok (.getfield 130, 3) := by decide +kernel
theorem dX10_done_64 : decode cX10_done 64 = .ok (.invokestatic 141, 3) := by decide +kernel
theorem dX10_done_67 : decode cX10_done 67 = .ok (.if_icmp .lt 17, 3) := by decide +kernel
theorem dX10_done_70 : decode cX10_done 70 = .ok (.aload_n 3, 1) := by decide +kernel
theorem dX10_done_71 : decode cX10_done 71 = .ok (.aload_n 2, 1) := by decide +kernel
theorem dX10_done_72 : decode cX10_done 72 = .ok (.getfield 91, 3) := by decide +kernel
theorem dX10_done_75 : decode cX10_done 75 = .ok (.getfield 130, 3) := by decide +kernel
theorem dX10_done_78 : decode cX10_done 78 = .ok (.invokevirtual 144, 3) := by decide +kernel
theorem dX10_done_81 : decode cX10_done 81 = .ok (.ifCond .ne 10, 3) := by decide +kernel
theorem dX10_done_84 : decode cX10_done 84 = .ok (.aload_n 0, 1) := by decide +kernel
theorem dX10_done_85 : decode cX10_done 85 = .ok (.bipush 6, 2) := by decide +kernel
theorem dX10_done_87 : decode cX10_done 87 = .ok (.invokevirtual 137, 3) := by decide +kernel
theorem dX10_done_90 : decode cX10_done 90 = .ok (.ireturn, 1) := by decide +kernel
theorem dX10_done_91 : decode cX10_done 91 = .ok (.aload_n 2, 1) := by decide +kernel
theorem dX10_done_92 : decode cX10_done 92 = .ok (.getfield 91, 3) := by decide +kernel
theorem dX10_done_95 : decode cX10_done 95 = .ok (.iconst 1, 1) := by decide +kernel
theorem dX10_done_96 : decode cX10_done 96 = .ok (.putfield 120, 3) := by decide +kernel
theorem dX10_done_99 : decode cX10_done 99 = .ok (.aload_n 0, 1) := by decide +kernel
theorem dX10_done_100 : decode cX10_done 100 = .ok (.invokevirtual 109, 3) := by decide +kernel
theorem dX10_done_103 : decode cX10_done 103 = .ok (.ireturn, 1) := by decide +kernel
theorem dX10_plainer_0 : decode cX10_plainer 0 = .ok (.aload_n 0, 1) := by decide +kernel
theorem dX10_plainer_1 : decode cX10_plainer 1 = .ok (.getfield 12, 3) := by decide +kernel
theorem dX10_plainer_4 : decode cX10_plainer 4 = .ok (.iload_n 1, 1) := by decide +kernel
theorem dX10_plainer_5 : decode cX10_plainer 5 = .ok (.invokevirtual 116, 3) := by decide +kernel
theorem dX10_plainer_8 : decode cX10_plainer 8 = .ok (.astore_n 3, 1) := by decide +kernel
theorem dX10_plainer_9 : decode cX10_plainer 9 = .ok (.aload_n 3, 1) := by decide +kernel
theorem dX10_plainer_10 : decode cX10_plainer 10 = .ok (.ifnonnull 9, 3) := by decide +kernel
theorem dX10_plainer_13 : decode cX10_plainer 13 = .ok (.aload_n 0, 1) := by decide +kernel
theorem dX10_plainer_14 : decode cX10_plainer 14 = .ok (.iconst 1, 1) := by decide +kernel
theorem dX10_plainer_15 : decode cX10_plainer 15 = .ok (.invokevirtual 78, 3) := by decide +kernel
theorem dX10_plainer_18 : decode cX10_plainer 18 = .ok (.ireturn, 1) := by decide +kernel
theorem dX10_plainer_19 : decode cX10_plainer 19 = .ok (.aload_n 3, 1) := by decide +kernel
theorem dX10_plainer_20 : decode cX10_plainer 20 = .ok (.getfield 91, 3) := by decide +kernel
theorem dX10_plainer_23 : decode cX10_plainer 23 = .ok (.getfield 120, 3) := by decide +kernel
theorem dX10_plainer_26 : decode cX10_plainer 26 = .ok (.iconst 1, 1) := by decide +kernel
theorem dX10_plainer_27 : decode cX10_plainer 27 = .ok (.if_icmp .eq 9, 3) := by decide +kernel
theorem dX10_plainer_30 : decode cX10_plainer 30 = .ok (.aload_n 0, 1) := by decide +kernel
theorem dX10_plainer_31 : decode cX10_plainer 31 = .ok (.iconst 2, 1) := by decide +kernel
theorem dX10_plainer_32 : decode cX10_plainer 32 = .ok (.invokevirtual 78, 3) := by decide +kernel
theorem dX10_plainer_35 : decode cX10_plainer 35 = .ok (.ireturn, 1) := by decide +kernel
theorem dX10_plainer_36 : decode cX10_plainer 36 = .ok (.aload_n 3, 1) := by decide +kernel
theorem dX10_plainer_37 : decode cX10_plainer 37 = .ok (.invokevirtual 147, 3) := by decide +kernel
theorem dX10_plainer_40 : decode cX10_plainer 40 = .ok (.ifCond .ne 9, 3) := by decide +kernel
theorem dX10_plainer_43 : decode cX10_plainer 43 = .ok (.aload_n 0, 1) := by decide +kernel
theorem dX10_plainer_44 : decode cX10_plainer 44 = .ok (.iconst 3, 1) := by decide +kernel
theorem dX10_plainer_45 : decode cX10_plainer 45 = .ok (.invokevirtual 78, 3) := by decide +kernel
theorem dX10_plainer_48 : decode cX10_plainer 48 = .ok (.ireturn, 1) := by decide +kernel
theorem dX10_plainer_49 : decode cX10_plainer 49 = .ok (.iload_n 2, 1) := by decide +kernel
theorem dX10_plainer_50 : decode cX10_plainer 50 = .ok (.ifCond .ge 9, 3) := by decide +kernel
theorem dX10_plainer_53 : decode cX10_plainer 53 = .ok (.aload_n 0, 1) := by decide +kernel
theorem dX10_plainer_54 : decode cX10_plainer 54 = .ok (.iconst 4, 1) := by decide +kernel
theorem dX10_plainer_55 : decode cX10_plainer 55 = .ok (.invokevirtual 78, 3) := by decide +kernel
theorem dX10_plainer_58 : decode cX10_plainer 58 = .ok (.ireturn, 1) := by decide +kernel
theorem dX10_plainer_59 : decode cX10_plainer 59 = .ok (.aload_n 3, 1) := by decide +kernel
theorem dX10_plainer_60 : decode cX10_plainer 60 = .ok (.getfield 91, 3) := by decide +kernel
theorem dX10_plainer_63 : decode cX10_plainer 63 = .ok (.getfield 103, 3) := by decide +kernel
theorem dX10_plainer_66 : decode cX10_plainer 66 = .ok (.ifnonnull 9, 3) := by decide +kernel
theorem dX10_plainer_69 : decode cX10_plainer 69 = .ok (.aload_n 0, 1) := by decide +kernel
theorem dX10_plainer_70 : decode cX10_plainer 70 = .ok (.iconst 5, 1) := by decide +kernel
theorem dX10_plainer_71 : decode cX10_plainer 71 = .ok (.invokevirtual 78, 3) := by decide +kernel
theorem dX10_plainer_74 : decode cX10_plainer 74 = .ok (.ireturn, 1) := by decide +kernel
theorem dX10_plainer_75 : decode cX10_plainer 75 = .ok (.aload_n 0, 1) := by decide +kernel
theorem dX10_plainer_76 : decode cX10_plainer 76 = .ok (.aload_n 3, 1) := by decide +kernel
theorem dX10_plainer_77 : decode cX10_plainer 77 = .ok (.iload_n 2, 1) := by decide +kernel
theorem dX10_plainer_78 : decode cX10_plainer 78 = .ok (.invokevirtual 150, 3) := by decide +kernel
theorem dX10_plainer_81 : decode cX10_plainer 81 = .ok (.istore 4, 2) := by decide +kernel
theorem dX10_plainer_83 : decode cX10_plainer 83 = .ok (.iload 4, 2) := by decide +kernel
theorem dX10_plainer_85 : decode cX10_plainer 85 = .ok (.ifCond .ne 10, 3) := by decide +kernel
theorem dX10_plainer_88 : decode cX10_plainer 88 = .ok (.aload_n 0, 1) := by decide +kernel
theorem dX10_plainer_89 : decode cX10_plainer 89 = .ok (.bipush 8, 2) := by decide +kernel
theorem dX10_plainer_91 : decode cX10_plainer 91 = .ok (.invokevirtual 78, 3) := by decide +kernel
theorem dX10_plainer_94 : decode cX10_plainer 94 = .ok (.ireturn, 1) := by decide +kernel
theorem dX10_plainer_95 : decode cX10_plainer 95 = .ok (.aload_n 0, 1) := by decide +kernel
theorem dX10_plainer_96 : decode cX10_plainer 96 = .ok (.iconst 1, 1) := by decide +kernel
theorem dX10_plainer_97 : decode cX10_plainer 97 = .ok (.iload_n 1, 1) := by decide +kernel
theorem dX10_plainer_98 : decode cX10_plainer 98 = .ok (.iload 4, 2) := by decide +kernel
theorem dX10_plainer_100 : decode cX10_plainer 100 = .ok (.aconst_null, 1) := by decide +kernel
theorem dX10_plainer_101 : decode cX10_plainer 101 = .ok (.invokevirtual 154, 3) := by decide +kernel
theorem dX10_plainer_104 : decode cX10_plainer 104 = .ok (.pop, 1) := by decide +kernel
theorem dX10_plainer_105 : decode cX10_plainer 105 = .ok (.iload 4, 2) := by decide +kernel
theorem dX10_plainer_107 : decode cX10_plainer 107 = .ok (.ireturn, 1) := by decide +kernel
theorem dX10_smooth_0 : decode cX10_smooth 0 = .ok (.aload_n 0, 1) := by decide +kernel
theorem dX10_smooth_1 : decode cX10_smooth 1 = .ok (.getfield 12, 3) := by decide +kernel
theorem dX10_smooth_4 : decode cX10_smooth 4 = .ok (.iload_n 1, 1) := by decide +kernel
theorem dX10_smooth_5 : decode cX10_smooth 5 = .ok (.invokevirtual 116, 3) := by decide +kernel
theorem dX10_smooth_8 : decode cX10_smooth 8 = .ok (.astore_n 2, 1) := by decide +kernel
theorem dX10_smooth_9 : decode cX10_smooth 9 = .ok (.aload_n 2, 1) := by decide +kernel
theorem dX10_smooth_10 : decode cX10_smooth 10 = .ok (.ifnonnull 9, 3) := by decide +kernel
theorem dX10_smooth_13 : decode cX10_smooth 13 = .ok (.aload_n 0, 1) := by decide +kernel
theorem dX10_smooth_14 : decode cX10_smooth 14 = .ok (.iconst 1, 1) := by decide +kernel
theorem dX10_smooth_15 : decode cX10_smooth 15 = .ok (.invokevirtual 137, 3) := by decide +kernel
theorem dX10_smooth_18 : decode cX10_smooth 18 = .ok (.ireturn, 1) := by decide +kernel
theorem dX10_smooth_19 : decode cX10_smooth 19 = .ok (.aload_n 2, 1) := by decide +kernel
theorem dX10_smooth_20 : decode cX10_smooth 20 = .ok (.getfield 91, 3) := by decide +kernel
theorem dX10_smooth_23 : decode cX10_smooth 23 = .ok (.getfield 120, 3) := by decide +kernel
theorem dX10_smooth_26 : decode cX10_smooth 26 = .ok (.iconst 1, 1) := by decide +kernel
theorem dX10_smooth_27 : decode cX10_smooth 27 = .ok (.if_icmp .eq 9, 3) := by decide +kernel
theorem dX10_smooth_30 : decode cX10_smooth 30 = .ok (.aload_n 0, 1) := by decide +kernel
theorem dX10_smooth_31 : decode cX10_smooth 31 = .ok (.iconst 2, 1) := by decide +kernel
theorem dX10_smooth_32 : decode cX10_smooth 32 = .ok (.invokevirtual 137, 3) := by decide +kernel
theorem dX10_smooth_35 : decode cX10_smooth 35 = .ok (.ireturn, 1) := by decide +kernel
theorem dX10_smooth_36 : decode cX10_smooth 36 = .ok (.aload_n 2, 1) := by decide +kernel
theorem dX10_smooth_37 : decode cX10_smooth 37 = .ok (.invokevirtual 147, 3) := by decide +kernel
theorem dX10_smooth_40 : decode cX10_smooth 40 = .ok (.ifCond .ne 9, 3) := by decide +kernel
theorem dX10_smooth_43 : decode cX10_smooth 43 = .ok (.aload_n 0, 1) := by decide +kernel
theorem dX10_smooth_44 : decode cX10_smooth 44 = .ok (.iconst 3, 1) := by decide +kernel
theorem dX10_smooth_45 : decode cX10_smooth 45 = .ok (.invokevirtual 137, 3) := by decide +kernel
theorem dX10_smooth_48 : decode cX10_smooth 48 = .ok (.ireturn, 1) := by decide +kernel
theorem dX10_smooth_49 : decode cX10_smooth 49 = .ok (.aload_n 2, 1) := by decide +kernel
theorem dX10_smooth_50 : decode cX10_smooth 50 = .ok (.getfield 91, 3) := by decide +kernel
theorem dX10_smooth_53 : decode cX10_smooth 53 = .ok (.getfield 103, 3) := by decide +kernel
theorem dX10_smooth_56 : decode cX10_smooth 56 = .ok (.astore_n 3, 1) := by decide +kernel
theorem dX10_smooth_57 : decode cX10_smooth 57 = .ok (.aload_n 3, 1) := by decide +kernel
theorem dX10_smooth_58 : decode cX10_smooth 58 = .ok (.ifnonnull 9, 3) := by decide +kernel
theorem dX10_smooth_61 : decode cX10_smooth 61 = .ok (.aload_n 0, 1) := by decide +kernel
theorem dX10_smooth_62 : decode cX10_smooth 62 = .ok (.iconst 5, 1) := by decide +kernel
theorem dX10_smooth_63 : decode cX10_smooth 63 = .ok (.invokevirtual 137, 3) := by decide +kernel
theorem dX10_smooth_66 : decode cX10_smooth 66 = .ok (.ireturn, 1) := by decide +kernel
theorem dX10_smooth_67 : decode cX10_smooth 67 = .ok (.aload_n 0, 1) := by decide +kernel
theorem dX10_smooth_68 : decode cX10_smooth 68 = .ok (.getfield 19, 3) := by decide +kernel
theorem dX10_smooth_71 : decode cX10_smooth 71 = .ok (.getfield 158, 3) := by decide +kernel
theorem dX10_smooth_74 : decode cX10_smooth 74 = .ok (.aload_n 3, 1) := by decide +kernel
theorem dX10_smooth_75 : decode cX10_smooth 75 = .ok (.invokevirtual 161, 3) := by decide +kernel
theorem dX10_smooth_78 : decode cX10_smooth 78 = .ok (.aload_n 0, 1) := by decide +kernel
theorem dX10_smooth_79 : decode cX10_smooth 79 = .ok (.aload_n 2, 1) := by decide +kernel
theorem dX10_smooth_80 : decode cX10_smooth 80 = .ok (.iload_n 1, 1) := by decide +kernel
theorem dX10_smooth_81 : decode cX10_smooth 81 = .ok (.iconst 2, 1) := by decide +kernel
theorem dX10_smooth_82 : decode cX10_smooth 82 = .ok (.invokevirtual 165, 3) := by decide +kernel
theorem dX10_smooth_85 : decode cX10_smooth 85 = .ok (.ireturn, 1) := by decide +kernel
theorem dX10_shift_0 : decode cX10_shift 0 = .ok (.aload_n 0, 1) := by decide +kernel
theorem dX10_shift_1 : decode cX10_shift 1 = .ok (.getfield 12, 3) := by decide +kernel
theorem dX10_shift_4 : decode cX10_shift 4 = .ok (.iload_n 1, 1) := by decide +kernel
theorem dX10_shift_5 : decode cX10_shift 5 = .ok (.invokevirtual 116, 3) := by decide +kernel
theorem dX10_shift_8 : decode cX10_shift 8 = .ok (.astore 6, 2) := by decide +kernel
theorem dX10_shift_10 : decode cX10_shift 10 = .ok (.aload 6, 2) := by decide +kernel
theorem dX10_shift_12 : decode cX10_shift 12 = .ok (.ifnull 12, 3) := by decide +kernel
theorem dX10_shift_15 : decode cX10_shift 15 = .ok (.aload 6, 2) := by decide +kernel
theorem dX10_shift_17 : decode cX10_shift 17 = .ok (.iload_n 2, 1) := by decide +kernel
theorem dX10_shift_18 : decode cX10_shift 18 = .ok (.invokevirtual 169, 3) := by decide +kernel
theorem dX10_shift_21 : decode cX10_shift 21 = .ok (.ifCond .ne 9, 3) := by decide +kernel
theorem dX10_shift_24 : decode cX10_shift 24 = .ok (.aload_n 0, 1) := by decide +kernel
theorem dX10_shift_25 : decode cX10_shift 25 = .ok (.iconst 1, 1) := by decide +kernel
theorem dX10_shift_26 : decode cX10_shift 26 = .ok (.invokevirtual 137, 3) := by decide +kernel
theorem dX10_shift_29 : decode cX10_shift 29 = .ok (.ireturn, 1) := by decide +kernel
theorem dX10_shift_30 : decode cX10_shift 30 = .ok (.aload 6, 2) := by decide +kernel
theorem dX10_shift_32 : decode cX10_shift 32 = .ok (.getfield 91, 3) := by decide +kernel
theorem dX10_shift_35 : decode cX10_shift 35 = .ok (.getfield 120, 3) := by decide +kernel
theorem dX10_shift_38 : decode cX10_shift 38 = .ok (.iconst 1, 1) := by decide +kernel
theorem dX10_shift_39 : decode cX10_shift 39 = .ok (.if_icmp .eq 9, 3) := by decide +kernel
theorem dX10_shift_42 : decode cX10_shift 42 = .ok (.aload_n 0, 1) := by decide +kernel
theorem dX10_shift_43 : decode cX10_shift 43 = .ok (.iconst 2, 1) := by decide +kernel
theorem dX10_shift_44 : decode cX10_shift 44 = .ok (.invokevirtual 137, 3) := by decide +kernel
theorem dX10_shift_47 : decode cX10_shift 47 = .ok (.ireturn, 1) := by decide +kernel
theorem dX10_shift_48 : decode cX10_shift 48 = .ok (.iload_n 3, 1) := by decide +kernel
theorem dX10_shift_49 : decode cX10_shift 49 = .ok (.sipush (-200), 3) := by decide +kernel
theorem dX10_shift_52 : decode cX10_shift 52 = .ok (.sipush 200, 3) := by decide +kernel
theorem dX10_shift_55 : decode cX10_shift 55 = .ok (.invokestatic 74, 3) := by decide +kernel
theorem dX10_shift_58 : decode cX10_shift 58 = .ok (.ifCond .eq 17, 3) := by decide +kernel
theorem dX10_shift_61 : decode cX10_shift 61 = .ok (.iload 4, 2) := by decide +kernel
theorem dX10_shift_63 : decode cX10_shift 63 = .ok (.sipush (-200), 3) := by decide +kernel
theorem dX10_shift_66 : decode cX10_shift 66 = .ok (.sipush 200, 3) := by decide +kernel
theorem dX10_shift_69 : decode cX10_shift 69 = .ok (.invokestatic 74, 3) := by decide +kernel
theorem dX10_shift_72 : decode cX10_shift 72 = .ok (.ifCond .ne 9, 3) := by decide +kernel
theorem dX10_shift_75 : decode cX10_shift 75 = .ok (.aload_n 0, 1) := by decide +kernel
theorem dX10_shift_76 : decode cX10_shift 76 = .ok (.iconst 4, 1) := by decide +kernel
theorem dX10_shift_77 : decode cX10_shift 77 = .ok (.invokevirtual 137, 3) := by decide +kernel
theorem dX10_shift_80 : decode cX10_shift 80 = .ok (.ireturn, 1) := by decide +kernel
theorem dX10_shift_81 : decode cX10_shift 81 = .ok (.iload 5, 2) := by decide +kernel
theorem dX10_shift_83 : decode cX10_shift 83 = .ok (.iconst 0, 1) := by decide +kernel
theorem dX10_shift_84 : decode cX10_shift 84 = .ok (.bipush 20, 2) := by decide +kernel
theorem dX10_shift_86 : decode cX10_shift 86 = .ok (.invokestatic 74, 3) := by decide +kernel
theorem dX10_shift_89 : decode cX10_shift 89 = .ok (.ifCond .ne 9, 3) := by decide +kernel
theorem dX10_shift_92 : decode cX10_shift 92 = .ok (.aload_n 0, 1) := by decide +kernel
theorem dX10_shift_93 : decode cX10_shift 93 = .ok (.iconst 4, 1) := by decide +kernel
theorem dX10_shift_94 : decode cX10_shift 94 = .ok (.invokevirtual 137, 3) := by decide +kernel
theorem dX10_shift_97 : decode cX10_shift 97 = .ok (.ireturn, 1) := by decide +kernel
theorem dX10_shift_98 : decode cX10_shift 98 = .ok (.aload 6, 2) := by decide +kernel
theorem dX10_shift_100 : decode cX10_shift 100 = .ok (.getfield 91, 3) := by decide +kernel
theorem dX10_shift_103 : decode cX10_shift 103 = .ok (.getfield 103, 3) := by decide +kernel
theorem dX10_shift_106 : decode cX10_shift 106 = .ok (.astore 7, 2) := by decide +kernel
theorem dX10_shift_108 : decode cX10_shift 108 = .ok (.aload 7, 2) := by decide +kernel
theorem dX10_shift_110 : decode cX10_shift 110 = .ok (.ifnonnull 9, 3) := by decide +kernel
theorem dX10_shift_113 : decode cX10_shift 113 = .ok (.aload_n 0, 1) := by decide +kernel
theorem dX10_shift_114 : decode cX10_shift 114 = .ok (.iconst 5, 1) := by decide +kernel
theorem dX10_shift_115 : decode cX10_shift 115 = .ok (.invokevirtual 137, 3) := by decide +kernel
theorem dX10_shift_118 : decode cX10_shift 118 = .ok (.ireturn, 1) := by decide +kernel
theorem dX10_shift_119 : decode cX10_shift 119 = .ok (.aload_n 0, 1) := by decide +kernel
theorem dX10_shift_120 : decode cX10_shift 120 = .ok (.getfield 19, 3) := by decide +kernel
theorem dX10_shift_123 : decode cX10_shift 123 = .ok (.getfield 158, 3) := by decide +kernel
theorem dX10_shift_126 : decode cX10_shift 126 = .ok (.aload 7, 2) := by decide +kernel
theorem dX10_shift_128 : decode cX10_shift 128 = .ok (.invokevirtual 172, 3) := by decide +kernel
theorem dX10_shift_131 : decode cX10_shift 131 = .ok (.aload 6, 2) := by decide +kernel
theorem dX10_shift_133 : decode cX10_shift 133 = .ok (.invokevirtual 147, 3) := by decide +kernel
theorem dX10_shift_136 : decode cX10_shift 136 = .ok (.ifCond .eq 22, 3) := by decide +kernel
theorem dX10_shift_139 : decode cX10_shift 139 = .ok (.aload_n 0, 1) := by decide +kernel
theorem dX10_shift_140 : decode cX10_shift 140 = .ok (.getfield 19, 3) := by decide +kernel
theorem dX10_shift_143 : decode cX10_shift 143 = .ok (.getfield 158, 3) := by decide +kernel
theorem dX10_shift_146 : decode cX10_shift 146 = .ok (.iload_n 2, 1) := by decide +kernel
theorem dX10_shift_147 : decode cX10_shift 147 = .ok (.iload_n 3, 1) := by decide +kernel
theorem dX10_shift_148 : decode cX10_shift 148 = .ok (.iload 4, 2) := by decide +kernel
theorem dX10_shift_150 : decode cX10_shift 150 = .ok (.iload 5, 2) := by decide +kernel
theorem dX10_shift_152 : decode cX10_shift 152 = .ok (.invokevirtual 175, 3) := by decide +kernel
theorem dX10_shift_155 : decode cX10_shift 155 = .ok (.goto 16, 3) := by decide +kernel
theorem dX10_shift_158 : decode cX10_shift 158 = .ok (.aload_n 0, 1) := by decide +kernel
theorem dX10_shift_159 : decode cX10_shift 159 = .ok (.getfield 19, 3) := by decide +kernel
theorem dX10_shift_162 : decode cX10_shift 162 = .ok (.getfield 158, 3) := by decide +kernel
theorem dX10_shift_165 : decode cX10_shift 165 = .ok (.iload_n 3, 1) := by decide +kernel
theorem dX10_shift_166 : decode cX10_shift 166 = .ok (.iload 4, 2) := by decide +kernel
theorem dX10_shift_168 : decode cX10_shift 168 = .ok (.invokevirtual 178, 3) := by decide +kernel
theorem dX10_shift_171 : decode cX10_shift 171 = .ok (.aload_n 0, 1) := by decide +kernel
theorem dX10_shift_172 : decode cX10_shift 172 = .ok (.aload 6, 2) := by decide +kernel
theorem dX10_shift_174 : decode cX10_shift 174 = .ok (.iload_n 1, 1) := by decide +kernel
theorem dX10_shift_175 : decode cX10_shift 175 = .ok (.iconst 3, 1) := by decide +kernel
theorem dX10_shift_176 : decode cX10_shift 176 = .ok (.invokevirtual 165, 3) := by decide +kernel
theorem dX10_shift_179 : decode cX10_shift 179 = .ok (.ireturn, 1) := by decide +kernel
theorem dX10_grow_0 : decode cX10_grow 0 = .ok (.aload_n 0, 1) := by decide +kernel
theorem dX10_grow_1 : decode cX10_grow 1 = .ok (.getfield 12, 3) := by decide +kernel
theorem dX10_grow_4 : decode cX10_grow 4 = .ok (.iload_n 1, 1) := by decide +kernel
theorem dX10_grow_5 : decode cX10_grow 5 = .ok (.invokevirtual 116, 3) := by decide +kernel
theorem dX10_grow_8 : decode cX10_grow 8 = .ok (.astore_n 2, 1) := by decide +kernel
theorem dX10_grow_9 : decode cX10_grow 9 = .ok (.aload_n 2, 1) := by decide +kernel
theorem dX10_grow_10 : decode cX10_grow 10 = .ok (.ifnonnull 9, 3) := by decide +kernel
theorem dX10_grow_13 : decode cX10_grow 13 = .ok (.aload_n 0, 1) := by decide +kernel
theorem dX10_grow_14 : decode cX10_grow 14 = .ok (.iconst 1, 1) := by decide +kernel
theorem dX10_grow_15 : decode cX10_grow 15 = .ok (.invokevirtual 137, 3) := by decide +kernel
theorem dX10_grow_18 : decode cX10_grow 18 = .ok (.ireturn, 1) := by decide +kernel
theorem dX10_grow_19 : decode cX10_grow 19 = .ok (.aload_n 2, 1) := by decide +kernel
theorem dX10_grow_20 : decode cX10_grow 20 = .ok (.getfield 91, 3) := by decide +kernel
theorem dX10_grow_23 : decode cX10_grow 23 = .ok (.getfield 120, 3) := by decide +kernel
theorem dX10_grow_26 : decode cX10_grow 26 = .ok (.iconst 1, 1) := by decide +kernel
theorem dX10_grow_27 : decode cX10_grow 27 = .ok (.if_icmp .eq 9, 3) := by decide +kernel
theorem dX10_grow_30 : decode cX10_grow 30 = .ok (.aload_n 0, 1) := by decide +kernel
theorem dX10_grow_31 : decode cX10_grow 31 = .ok (.iconst 2, 1) := by decide +kernel
theorem dX10_grow_32 : decode cX10_grow 32 = .ok (.invokevirtual 137, 3) := by decide +kernel
theorem dX10_grow_35 : decode cX10_grow 35 = .ok (.ireturn, 1) := by decide +kernel
theorem dX10_grow_36 : decode cX10_grow 36 = .ok (.aload_n 2, 1) := by decide +kernel
theorem dX10_grow_37 : decode cX10_grow 37 = .ok (.getfield 91, 3) := by decide +kernel
theorem dX10_grow_40 : decode cX10_grow 40 = .ok (.getfield 130, 3) := by decide +kernel
theorem dX10_grow_43 : decode cX10_grow 43 = .ok (.bipush 6, 2) := by decide +kernel
theorem dX10_grow_45 : decode cX10_grow 45 = .ok (.if_icmp .eq 9, 3) := by decide +kernel
theorem dX10_grow_48 : decode cX10_grow 48 = .ok (.aload_n 0, 1) := by decide +kernel
theorem dX10_grow_49 : decode cX10_grow 49 = .ok (.iconst 3, 1) := by decide +kernel
theorem dX10_grow_50 : decode cX10_grow 50 = .ok (.invokevirtual 137, 3) := by decide +kernel
theorem dX10_grow_53 : decode cX10_grow 53 = .ok (.ireturn, 1) := by decide +kernel
theorem dX10_grow_54 : decode cX10_grow 54 = .ok (.aload_n 2, 1) := by decide +kernel
theorem dX10_grow_55 : decode cX10_grow 55 = .ok (.getfield 91, 3) := by decide +kernel
theorem dX10_grow_58 : decode cX10_grow 58 = .ok (.getfield 103, 3) := by decide +kernel
theorem dX10_grow_61 : decode cX10_grow 61 = .ok (.astore_n 3, 1) := by decide +kernel
theorem dX10_grow_62 : decode cX10_grow 62 = .ok (.aload_n 3, 1) := by decide +kernel
theorem dX10_grow_63 : decode cX10_grow 63 = .ok (.ifnonnull 9, 3) := by decide +kernel
theorem dX10_grow_66 : decode cX10_grow 66 = .ok (.aload_n 0, 1) := by decide +kernel
theorem dX10_grow_67 : decode cX10_grow 67 = .ok (.iconst 5, 1) := by decide +kernel
theorem dX10_grow_68 : decode cX10_grow 68 = .ok (.invokevirtual 137, 3) := by decide +kernel
theorem dX10_grow_71 : decode cX10_grow 71 = .ok (.ireturn, 1) := by decide +kernel
theorem dX10_grow_72 : decode cX10_grow 72 = .ok (.aload_n 0, 1) := by decide +kernel
theorem dX10_grow_73 : decode cX10_grow 73 = .ok (.getfield 19, 3) := by decide +kernel
theorem dX10_grow_76 : decode cX10_grow 76 = .ok (.getfield 158, 3) := by decide +kernel
theorem dX10_grow_79 : decode cX10_grow 79 = .ok (.aload_n 3, 1) := by decide +kernel
theorem dX10_grow_80 : decode cX10_grow 80 = .ok (.invokevirtual 181, 3) := by decide +kernel
theorem dX10_grow_83 : decode cX10_grow 83 = .ok (.aload_n 0, 1) := by decide +kernel
theorem dX10_grow_84 : decode cX10_grow 84 = .ok (.aload_n 2, 1) := by decide +kernel
theorem dX10_grow_85 : decode cX10_grow 85 = .ok (.iload_n 1, 1) := by decide +kernel
theorem dX10_grow_86 : decode cX10_grow 86 = .ok (.iconst 4, 1) := by decide +kernel
theorem dX10_grow_87 : decode cX10_grow 87 = .ok (.invokevirtual 165, 3) := by decide +kernel
theorem dX10_grow_90 : decode cX10_grow 90 = .ok (.ireturn, 1) := by decide +kernel
theorem dX10_square_0 : decode cX10_square 0 = .ok (.aload_n 0, 1) := by decide +kernel
theorem dX10_square_1 : decode cX10_square 1 = .ok (.getfield 12, 3) := by decide +kernel
theorem dX10_square_4 : decode cX10_square 4 = .ok (.iload_n 1, 1) := by decide +kernel
theorem dX10_square_5 : decode cX10_square 5 = .ok (.invokevirtual 116, 3) := by decide +kernel
theorem dX10_square_8 : decode cX10_square 8 = .ok (.astore_n 3, 1) := by decide +kernel
theorem dX10_square_9 : decode cX10_square 9 = .ok (.aload_n 3, 1) := by decide +kernel
theorem dX10_square_10 : decode cX10_square 10 = .ok (.ifnonnull 9, 3) := by decide +kernel
theorem dX10_square_13 : decode cX10_square 13 = .ok (.aload_n 0, 1) := by decide +kernel
theorem dX10_square_14 : decode cX10_square 14 = .ok (.iconst 1, 1) := by decide +kernel
theorem dX10_square_15 : decode cX10_square 15 = .ok (.invokevirtual 137, 3) := by decide +kernel
theorem dX10_square_18 : decode cX10_square 18 = .ok (.ireturn, 1) := by decide +kernel
theorem dX10_square_19 : decode cX10_square 19 = .ok (.aload_n 3, 1) := by decide +kernel
theorem dX10_square_20 : decode cX10_square 20 = .ok (.getfield 91, 3) := by decide +kernel
theorem dX10_square_23 : decode cX10_square 23 = .ok (.getfield 120, 3) := by decide +kernel
theorem dX10_square_26 : decode cX10_square 26 = .ok (.iconst 1, 1) := by decide +kernel
theorem dX10_square_27 : decode cX10_square 27 = .ok (.if_icmp .eq 9, 3) := by decide +kernel
theorem dX10_square_30 : decode cX10_square 30 = .ok (.aload_n 0, 1) := by decide +kernel
theorem dX10_square_31 : decode cX10_square 31 = .ok (.iconst 2, 1) := by decide +kernel
theorem dX10_square_32 : decode cX10_square 32 = .ok (.invokevirtual 137, 3) := by decide +kernel
theorem dX10_square_35 : decode cX10_square 35 = .ok (.ireturn, 1) := by decide +kernel
theorem dX10_square_36 : decode cX10_square 36 = .ok (.aload_n 3, 1) := by decide +kernel
theorem dX10_square_37 : decode cX10_square 37 = .ok (.getfield 91, 3) := by decide +kernel
theorem dX10_square_40 : decode cX10_square 40 = .ok (.getfield 130, 3) := by decide +kernel
theorem dX10_square_43 : decode cX10_square 43 = .ok (.iconst 5, 1) := by decide +kernel
theorem dX10_square_44 : decode cX10_square 44 = .ok (.if_icmp .eq 9, 3) := by decide +kernel
theorem dX10_square_47 : decode cX10_square 47 = .ok (.aload_n 0, 1) := by decide +kernel
theorem dX10_square_48 : decode cX10_square 48 = .ok (.iconst 3, 1) := by decide +kernel
theorem dX10_square_49 : decode cX10_square 49 = .ok (.invokevirtual 137, 3) := by decide +kernel
theorem dX10_square_52 : decode cX10_square 52 = .ok (.ireturn, 1) := by decide +kernel
theorem dX10_square_53 : decode cX10_square 53 = .ok (.iload_n 2, 1) := by decide +kernel
theorem dX10_square_54 : decode cX10_square 54 = .ok (.ifCond .ge 9, 3) := by decide +kernel
theorem dX10_square_57 : decode cX10_square 57 = .ok (.aload_n 0, 1) := by decide +kernel
theorem dX10_square_58 : decode cX10_square 58 = .ok (.iconst 4, 1) := by decide +kernel
theorem dX10_square_59 : decode cX10_square 59 = .ok (.invokevirtual 137, 3) := by decide +kernel
theorem dX10_square_62 : decode cX10_square 62 = .ok (.ireturn, 1) := by decide +kernel
theorem dX10_square_63 : decode cX10_square 63 = .ok (.aload_n 3, 1) := by decide +kernel
theorem dX10_square_64 : decode cX10_square 64 = .ok (.getfield 91, 3) := by decide +kernel
theorem dX10_square_67 : decode cX10_square 67 = .ok (.getfield 103, 3) := by decide +kernel
theorem dX10_square_70 : decode cX10_square 70 = .ok (.astore 4, 2) := by decide +kernel
theorem dX10_square_72 : decode cX10_square 72 = .ok (.aload 4, 2) := by decide +kernel
theorem dX10_square_74 : decode cX10_square 74 = .ok (.ifnonnull 9, 3) := by decide +kernel
theorem dX10_square_77 : decode cX10_square 77 = .ok (.aload_n 0, 1) := by decide +kernel
theorem dX10_square_78 : decode cX10_square 78 = .ok (.iconst 5, 1) := by decide +kernel
theorem dX10_square_79 : decode cX10_square 79 = .ok (.invokevirtual 137, 3) := by decide +kernel
theorem dX10_square_82 : decode cX10_square 82 = .ok (.ireturn, 1) := by decide +kernel
theorem dX10_square_83 : decode cX10_square 83 = .ok (.aload_n 0, 1) := by decide +kernel
theorem dX10_square_84 : decode cX10_square 84 = .ok (.getfield 33, 3) := by decide +kernel
theorem dX10_square_87 : decode cX10_square 87 = .ok (.aload 4, 2) := by decide +kernel
theorem dX10_square_89 : decode cX10_square 89 = .ok (.invokevirtual 184, 3) := by decide +kernel
theorem dX10_square_92 : decode cX10_square 92 = .ok (.aload_n 0, 1) := by decide +kernel
theorem dX10_square_93 : decode cX10_square 93 = .ok (.getfield 19, 3) := by decide +kernel
theorem dX10_square_96 : decode cX10_square 96 = .ok (.getfield 158, 3) := by decide +kernel
theorem dX10_square_99 : decode cX10_square 99 = .ok (.aload_n 0, 1) := by decide +kernel
theorem dX10_square_100 : decode cX10_square 100 = .ok (.getfield 33, 3) := by decide +kernel
theorem dX10_square_103 : decode cX10_square 103 = .ok (.invokevirtual 187, 3) := by decide +kernel
theorem dX10_square_106 : decode cX10_square 106 = .ok (.aload_n 0, 1) := by decide +kernel
theorem dX10_square_107 : decode cX10_square 107 = .ok (.getfield 19, 3) := by decide +kernel
theorem dX10_square_110 : decode cX10_square 110 = .ok (.getfield 158, 3) := by decide +kernel
theorem dX10_square_113 : decode cX10_square 113 = .ok (.invokevirtual 191, 3) := by decide +kernel
theorem dX10_square_116 : decode cX10_square 116 = .ok (.aload 4, 2) := by decide +kernel
theorem dX10_square_118 : decode cX10_square 118 = .ok (.invokevirtual 191, 3) := by decide +kernel
theorem dX10_square_121 : decode cX10_square 121 = .ok (.isub, 1) := by decide +kernel
theorem dX10_square_122 : decode cX10_square 122 = .ok (.iload_n 2, 1) := by decide +kernel
theorem dX10_square_123 : decode cX10_square 123 = .ok (.if_icmp .le 9, 3) := by decide +kernel
theorem dX10_square_126 : decode cX10_square 126 = .ok (.aload_n 0, 1) := by decide +kernel
theorem dX10_square_127 : decode cX10_square 127 = .ok (.iconst 4, 1) := by decide +kernel
theorem dX10_square_128 : decode cX10_square 128 = .ok (.invokevirtual 137, 3) := by decide +kernel
theorem dX10_square_131 : decode cX10_square 131 = .ok (.ireturn, 1) := by decide +kernel
theorem dX10_square_132 : decode cX10_square 132 = .ok (.aload_n 0, 1) := by decide +kernel
theorem dX10_square_133 : decode cX10_square 133 = .ok (.getfield 19, 3) := by decide +kernel
theorem dX10_square_136 : decode cX10_square 136 = .ok (.aload_n 0, 1) := by decide +kernel
theorem dX10_square_137 : decode cX10_square 137 = .ok (.getfield 12, 3) := by decide +kernel
theorem dX10_square_140 : decode cX10_square 140 = .ok (.aload_n 3, 1) := by decide +kernel
theorem dX10_square_141 : decode cX10_square 141 = .ok (.bipush (-2), 2) := by decide +kernel
theorem dX10_square_143 : decode cX10_square 143 = .ok (.invokevirtual 195, 3) := by decide +kernel
theorem dX10_square_146 : decode cX10_square 146 = .ok (.ifCond .ne 10, 3) := by decide +kernel
theorem dX10_square_149 : decode cX10_square 149 = .ok (.aload_n 0, 1) := by decide +kernel
theorem dX10_square_150 : decode cX10_square 150 = .ok (.bipush 7, 2) := by decide +kernel
theorem dX10_square_152 : decode cX10_square 152 = .ok (.invokevirtual 137, 3) := by decide +kernel
theorem dX10_square_155 : decode cX10_square 155 = .ok (.ireturn, 1) := by decide +kernel
theorem dX10_square_156 : decode cX10_square 156 = .ok (.aload_n 3, 1) := by decide +kernel
theorem dX10_square_157 : decode cX10_square 157 = .ok (.aload_n 0, 1) := by decide +kernel
theorem dX10_square_158 : decode cX10_square 158 = .ok (.getfield 19, 3) := by decide +kernel
theorem dX10_square_161 : decode cX10_square 161 = .ok (.getfield 158, 3) := by decide +kernel
theorem dX10_square_164 : decode cX10_square 164 = .ok (.invokevirtual 199, 3) := by decide +kernel
theorem dX10_square_167 : decode cX10_square 167 = .ok (.aload_n 3, 1) := by decide +kernel
theorem dX10_square_168 : decode cX10_square 168 = .ok (.getfield 91, 3) := by decide +kernel
theorem dX10_square_171 : decode cX10_square 171 = .ok (.bipush 6, 2) := by decide +kernel
theorem dX10_square_173 : decode cX10_square 173 = .ok (.putfield 130, 3) := by decide +kernel
theorem dX10_square_176 : decode cX10_square 176 = .ok (.aload_n 0, 1) := by decide +kernel
theorem dX10_square_177 : decode cX10_square 177 = .ok (.iconst 5, 1) := by decide +kernel
theorem dX10_square_178 : decode cX10_square 178 = .ok (.iload_n 1, 1) := by decide +kernel
theorem dX10_square_179 : decode cX10_square 179 = .ok (.iconst 0, 1) := by decide +kernel
theorem dX10_square_180 : decode cX10_square 180 = .ok (.aconst_null, 1) := by decide +kernel
theorem dX10_square_181 : decode cX10_square 181 = .ok (.invokevirtual 154, 3) := by decide +kernel
theorem dX10_square_184 : decode cX10_square 184 = .ok (.ireturn, 1) := by decide +kernel
theorem dX10_join_0 : decode cX10_join 0 = .ok (.aload_n 0, 1) := by decide +kernel
theorem dX10_join_1 : decode cX10_join 1 = .ok (.getfield 12, 3) := by decide +kernel
theorem dX10_join_4 : decode cX10_join 4 = .ok (.iload_n 1, 1) := by decide +kernel
theorem dX10_join_5 : decode cX10_join 5 = .ok (.invokevirtual 116, 3) := by decide +kernel
theorem dX10_join_8 : decode cX10_join 8 = .ok (.astore 4, 2) := by decide +kernel
theorem dX10_join_10 : decode cX10_join 10 = .ok (.aload_n 0, 1) := by decide +kernel
theorem dX10_join_11 : decode cX10_join 11 = .ok (.getfield 12, 3) := by decide +kernel
theorem dX10_join_14 : decode cX10_join 14 = .ok (.iload_n 2, 1) := by decide +kernel
theorem dX10_join_15 : decode cX10_join 15 = .ok (.invokevirtual 116, 3) := by decide +kernel
theorem dX10_join_18 : decode cX10_join 18 = .ok (.astore 5, 2) := by decide +kernel
theorem dX10_join_20 : decode cX10_join 20 = .ok (.aload 4, 2) := by decide +kernel
theorem dX10_join_22 : decode cX10_join 22 = .ok (.ifnull 8, 3) := by decide +kernel
theorem dX10_join_25 : decode cX10_join 25 = .ok (.aload 5, 2) := by decide +kernel
theorem dX10_join_27 : decode cX10_join 27 = .ok (.ifnonnull 9, 3) := by decide +kernel
theorem dX10_join_30 : decode cX10_join 30 = .ok (.aload_n 0, 1) := by decide +kernel
theorem dX10_join_31 : decode cX10_join 31 = .ok (.iconst 1, 1) := by decide +kernel
theorem dX10_join_32 : decode cX10_join 32 = .ok (.invokevirtual 78, 3) := by decide +kernel
theorem dX10_join_35 : decode cX10_join 35 = .ok (.ireturn, 1) := by decide +kernel
theorem dX10_join_36 : decode cX10_join 36 = .ok (.aload 4, 2) := by decide +kernel
theorem dX10_join_38 : decode cX10_join 38 = .ok (.getfield 91, 3) := by decide +kernel
theorem dX10_join_41 : decode cX10_join 41 = .ok (.getfield 120, 3) := by decide +kernel
theorem dX10_join_44 : decode cX10_join 44 = .ok (.iconst 1, 1) := by decide +kernel
theorem dX10_join_45 : decode cX10_join 45 = .ok (.if_icmp .ne 15, 3) := by decide +kernel
theorem dX10_join_48 : decode cX10_join 48 = .ok (.aload 5, 2) := by decide +kernel
theorem dX10_join_50 : decode cX10_join 50 = .ok (.getfield 91, 3) := by decide +kernel
theorem dX10_join_53 : decode cX10_join 53 = .ok (.getfield 120, 3) := by decide +kernel
theorem dX10_join_56 : decode cX10_join 56 = .ok (.iconst 1, 1) := by decide +kernel
theorem dX10_join_57 : decode cX10_join 57 = .ok (.if_icmp .eq 9, 3) := by decide +kernel
theorem dX10_join_60 : decode cX10_join 60 = .ok (.aload_n 0, 1) := by decide +kernel
theorem dX10_join_61 : decode cX10_join 61 = .ok (.iconst 2, 1) := by decide +kernel
theorem dX10_join_62 : decode cX10_join 62 = .ok (.invokevirtual 78, 3) := by decide +kernel
theorem dX10_join_65 : decode cX10_join 65 = .ok (.ireturn, 1) := by decide +kernel
theorem dX10_join_66 : decode cX10_join 66 = .ok (.aload 4, 2) := by decide +kernel
theorem dX10_join_68 : decode cX10_join 68 = .ok (.getfield 91, 3) := by decide +kernel
theorem dX10_join_71 : decode cX10_join 71 = .ok (.getfield 130, 3) := by decide +kernel
theorem dX10_join_74 : decode cX10_join 74 = .ok (.bipush 6, 2) := by decide +kernel
theorem dX10_join_76 : decode cX10_join 76 = .ok (.if_icmp .ne 16, 3) := by decide +kernel
theorem dX10_join_79 : decode cX10_join 79 = .ok (.aload 5, 2) := by decide +kernel
theorem dX10_join_81 : decode cX10_join 81 = .ok (.getfield 91, 3) := by decide +kernel
theorem dX10_join_84 : decode cX10_join 84 = .ok (.getfield 130, 3) := by decide +kernel
theorem dX10_join_87 : decode cX10_join 87 = .ok (.bipush 6, 2) := by decide +kernel
theorem dX10_join_89 : decode cX10_join 89 = .ok (.if_icmp .eq 9, 3) := by decide +kernel
theorem dX10_join_92 : decode cX10_join 92 = .ok (.aload_n 0, 1) := by decide +kernel
theorem dX10_join_93 : decode cX10_join 93 = .ok (.iconst 3, 1) := by decide +kernel
theorem dX10_join_94 : decode cX10_join 94 = .ok (.invokevirtual 78, 3) := by decide +kernel
theorem dX10_join_97 : decode cX10_join 97 = .ok (.ireturn, 1) := by decide +kernel
theorem dX10_join_98 : decode cX10_join 98 = .ok (.iload_n 3, 1) := by decide +kernel
theorem dX10_join_99 : decode cX10_join 99 = .ok (.iconst 0, 1) := by decide +kernel
theorem dX10_join_100 : decode cX10_join 100 = .ok (.sipush 1000, 3) := by decide +kernel
theorem dX10_join_103 : decode cX10_join 103 = .ok (.invokestatic 74, 3) := by decide +kernel
theorem dX10_join_106 : decode cX10_join 106 = .ok (.ifCond .ne 9, 3) := by decide +kernel
theorem dX10_join_109 : decode cX10_join 109 = .ok (.aload_n 0, 1) := by decide +kernel
theorem dX10_join_110 : decode cX10_join 110 = .ok (.iconst 4, 1) := by decide +kernel
theorem dX10_join_111 : decode cX10_join 111 = .ok (.invokevirtual 78, 3) := by decide +kernel
theorem dX10_join_114 : decode cX10_join 114 = .ok (.ireturn, 1) := by decide +kernel
theorem dX10_join_115 : decode cX10_join 115 = .ok (.aload 4, 2) := by decide +kernel
theorem dX10_join_117 : decode cX10_join 117 = .ok (.getfield 91, 3) := by decide +kernel
theorem dX10_join_120 : decode cX10_join 120 = .ok (.getfield 103, 3) := by decide +kernel
theorem dX10_join_123 : decode cX10_join 123 = .ok (.astore 6, 2) := by decide +kernel
theorem dX10_join_125 : decode cX10_join 125 = .ok (.aload 5, 2) := by decide +kernel
theorem dX10_join_127 : decode cX10_join 127 = .ok (.getfield 91, 3) := by decide +kernel
theorem dX10_join_130 : decode cX10_join 130 = .ok (.getfield 103, 3) := by decide +kernel
theorem dX10_join_133 : decode cX10_join 133 = .ok (.astore 7, 2) := by decide +kernel
theorem dX10_join_135 : decode cX10_join 135 = .ok (.aload 6, 2) := by decide +kernel
theorem dX10_join_137 : decode cX10_join 137 = .ok (.ifnull 8, 3) := by decide +kernel
theorem dX10_join_140 : decode cX10_join 140 = .ok (.aload 7, 2) := by decide +kernel
theorem dX10_join_142 : decode cX10_join 142 = .ok (.ifnonnull 9, 3) := by decide +kernel
theorem dX10_join_145 : decode cX10_join 145 = .ok (.aload_n 0, 1) := by decide +kernel
theorem dX10_join_146 : decode cX10_join 146 = .ok (.iconst 5, 1) := by decide +kernel
theorem dX10_join_147 : decode cX10_join 147 = .ok (.invokevirtual 78, 3) := by decide +kernel
theorem dX10_join_150 : decode cX10_join 150 = .ok (.ireturn, 1) := by decide +kernel
theorem dX10_join_151 : decode cX10_join 151 = .ok (.aload_n 0, 1) := by decide +kernel
theorem dX10_join_152 : decode cX10_join 152 = .ok (.getfield 43, 3) := by decide +kernel
theorem dX10_join_155 : decode cX10_join 155 = .ok (.aload 6, 2) := by decide +kernel
theorem dX10_join_157 : decode cX10_join 157 = .ok (.aload 7, 2) := by decide +kernel
theorem dX10_join_159 : decode cX10_join 159 = .ok (.invokevirtual 202, 3) := by decide +kernel
theorem dX10_join_162 : decode cX10_join 162 = .ok (.aload_n 0, 1) := by decide +kernel
theorem dX10_join_163 : decode cX10_join 163 = .ok (.getfield 43, 3) := by decide +kernel
theorem dX10_join_166 : decode cX10_join 166 = .ok (.iload_n 3, 1) := by decide +kernel
theorem dX10_join_167 : decode cX10_join 167 = .ok (.invokevirtual 206, 3) := by decide +kernel
theorem dX10_join_170 : decode cX10_join 170 = .ok (.ifCond .eq 9, 3) := by decide +kernel
theorem dX10_join_173 : decode cX10_join 173 = .ok (.aload_n 0, 1) := by decide +kernel
theorem dX10_join_174 : decode cX10_join 174 = .ok (.iconst 4, 1) := by decide +kernel
theorem dX10_join_175 : decode cX10_join 175 = .ok (.invokevirtual 78, 3) := by decide +kernel
theorem dX10_join_178 : decode cX10_join 178 = .ok (.ireturn, 1) := by decide +kernel
theorem dX10_join_179 : decode cX10_join 179 = .ok (.aload_n 0, 1) := by decide +kernel
theorem dX10_join_180 : decode cX10_join 180 = .ok (.getfield 33, 3) := by decide +kernel
theorem dX10_join_183 : decode cX10_join 183 = .ok (.aload 6, 2) := by decide +kernel
theorem dX10_join_185 : decode cX10_join 185 = .ok (.invokevirtual 184, 3) := by decide +kernel
theorem dX10_join_188 : decode cX10_join 188 = .ok (.aload_n 0, 1) := by decide +kernel
theorem dX10_join_189 : decode cX10_join 189 = .ok (.getfield 33, 3) := by decide +kernel
theorem dX10_join_192 : decode cX10_join 192 = .ok (.aload 7, 2) := by decide +kernel
theorem dX10_join_194 : decode cX10_join 194 = .ok (.invokevirtual 209, 3) := by decide +kernel
theorem dX10_join_197 : decode cX10_join 197 = .ok (.aload_n 0, 1) := by decide +kernel
theorem dX10_join_198 : decode cX10_join 198 = .ok (.getfield 19, 3) := by decide +kernel
theorem dX10_join_201 : decode cX10_join 201 = .ok (.getfield 158, 3) := by decide +kernel
theorem dX10_join_204 : decode cX10_join 204 = .ok (.aload_n 0, 1) := by decide +kernel
theorem dX10_join_205 : decode cX10_join 205 = .ok (.getfield 33, 3) := by decide +kernel
theorem dX10_join_208 : decode cX10_join 208 = .ok (.invokevirtual 187, 3) := by decide +kernel
theorem dX10_join_211 : decode cX10_join 211 = .ok (.aload_n 0, 1) := by decide +kernel
theorem dX10_join_212 : decode cX10_join 212 = .ok (.getfield 19, 3) := by decide +kernel
theorem dX10_join_215 : decode cX10_join 215 = .ok (.aload_n 0, 1) := by decide +kernel
theorem dX10_join_216 : decode cX10_join 216 = .ok (.getfield 12, 3) := by decide +kernel
theorem dX10_join_219 : decode cX10_join 219 = .ok (.aload 4, 2) := by decide +kernel
theorem dX10_join_221 : decode cX10_join 221 = .ok (.aload 5, 2) := by decide +kernel
theorem dX10_join_223 : decode cX10_join 223 = .ok (.invokevirtual 212, 3) := by decide +kernel
theorem dX10_join_226 : decode cX10_join 226 = .ok (.ifCond .ne 10, 3) := by decide +kernel
theorem dX10_join_229 : decode cX10_join 229 = .ok (.aload_n 0, 1) := by decide +kernel
theorem dX10_join_230 : decode cX10_join 230 = .ok (.bipush 7, 2) := by decide +kernel
theorem dX10_join_232 : decode cX10_join 232 = .ok (.invokevirtual 78, 3) := by decide +kernel
theorem dX10_join_235 : decode cX10_join 235 = .ok (.ireturn, 1) := by decide +kernel
theorem dX10_join_236 : decode cX10_join 236 = .ok (.aload_n 0, 1) := by decide +kernel
theorem dX10_join_237 : decode cX10_join 237 = .ok (.getfield 12, 3) := by decide +kernel
theorem dX10_join_240 : decode cX10_join 240 = .ok (.invokevirtual 82, 3) := by decide +kernel
theorem dX10_join_243 : decode cX10_join 243 = .ok (.ifCond .ne 10, 3) := by decide +kernel
theorem dX10_join_246 : decode cX10_join 246 = .ok (.aload 4, 2) := by decide +kernel
theorem dX10_join_248 : decode cX10_join 248 = .ok (.aload 5, 2) := by decide +kernel
theorem dX10_join_250 : decode cX10_join 250 = .ok (.if_acmp .ne 10, 3) := by decide +kernel
theorem dX10_join_253 : decode cX10_join 253 = .ok (.aload_n 0, 1) := by decide +kernel
theorem dX10_join_254 : decode cX10_join 254 = .ok (.bipush 8, 2) := by decide +kernel
theorem dX10_join_256 : decode cX10_join 256 = .ok (.invokevirtual 78, 3) := by decide +kernel
theorem dX10_join_259 : decode cX10_join 259 = .ok (.ireturn, 1) := by decide +kernel
theorem dX10_join_260 : decode cX10_join 260 = .ok (.aload_n 0, 1) := by decide +kernel
theorem dX10_join_261 : decode cX10_join 261 = .ok (.aload 4, 2) := by decide +kernel
theorem dX10_join_263 : decode cX10_join 263 = .ok (.aload 5, 2) := by decide +kernel
theorem dX10_join_265 : decode cX10_join 265 = .ok (.iload_n 1, 1) := by decide +kernel
theorem dX10_join_266 : decode cX10_join 266 = .ok (.iload_n 2, 1) := by decide +kernel
theorem dX10_join_267 : decode cX10_join 267 = .ok (.invokevirtual 216, 3) := by decide +kernel
theorem dX10_join_270 : decode cX10_join 270 = .ok (.ireturn, 1) := by decide +kernel
theorem dX10_drop_0 : decode cX10_drop 0 = .ok (.aload_n 0, 1) := by decide +kernel
theorem dX10_drop_1 : decode cX10_drop 1 = .ok (.getfield 12, 3) := by decide +kernel
theorem dX10_drop_4 : decode cX10_drop 4 = .ok (.iload_n 1, 1) := by decide +kernel
theorem dX10_drop_5 : decode cX10_drop 5 = .ok (.invokevirtual 116, 3) := by decide +kernel
theorem dX10_drop_8 : decode cX10_drop 8 = .ok (.astore_n 2, 1) := by decide +kernel
theorem dX10_drop_9 : decode cX10_drop 9 = .ok (.aload_n 2, 1) := by decide +kernel
theorem dX10_drop_10 : decode cX10_drop 10 = .ok (.ifnonnull 9, 3) := by decide +kernel
theorem dX10_drop_13 : decode cX10_drop 13 = .ok (.aload_n 0, 1) := by decide +kernel
theorem dX10_drop_14 : decode cX10_drop 14 = .ok (.iconst 1, 1) := by decide +kernel
theorem dX10_drop_15 : decode cX10_drop 15 = .ok (.invokevirtual 137, 3) := by decide +kernel
theorem dX10_drop_18 : decode cX10_drop 18 = .ok (.ireturn, 1) := by decide +kernel
theorem dX10_drop_19 : decode cX10_drop 19 = .ok (.aload_n 2, 1) := by decide +kernel
theorem dX10_drop_20 : decode cX10_drop 20 = .ok (.getfield 91, 3) := by decide +kernel
theorem dX10_drop_23 : decode cX10_drop 23 = .ok (.getfield 120, 3) := by decide +kernel
theorem dX10_drop_26 : decode cX10_drop 26 = .ok (.iconst 1, 1) := by decide +kernel
theorem dX10_drop_27 : decode cX10_drop 27 = .ok (.if_icmp .eq 9, 3) := by decide +kernel
theorem dX10_drop_30 : decode cX10_drop 30 = .ok (.aload_n 0, 1) := by decide +kernel
theorem dX10_drop_31 : decode cX10_drop 31 = .ok (.iconst 2, 1) := by decide +kernel
theorem dX10_drop_32 : decode cX10_drop 32 = .ok (.invokevirtual 137, 3) := by decide +kernel
theorem dX10_drop_35 : decode cX10_drop 35 = .ok (.ireturn, 1) := by decide +kernel
theorem dX10_drop_36 : decode cX10_drop 36 = .ok (.aload_n 2, 1) := by decide +kernel
theorem dX10_drop_37 : decode cX10_drop 37 = .ok (.getfield 91, 3) := by decide +kernel
theorem dX10_drop_40 : decode cX10_drop 40 = .ok (.getfield 103, 3) := by decide +kernel
theorem dX10_drop_43 : decode cX10_drop 43 = .ok (.ifnonnull 9, 3) := by decide +kernel
theorem dX10_drop_46 : decode cX10_drop 46 = .ok (.aload_n 0, 1) := by decide +kernel
theorem dX10_drop_47 : decode cX10_drop 47 = .ok (.iconst 5, 1) := by decide +kernel
theorem dX10_drop_48 : decode cX10_drop 48 = .ok (.invokevirtual 137, 3) := by decide +kernel
theorem dX10_drop_51 : decode cX10_drop 51 = .ok (.ireturn, 1) := by decide +kernel
theorem dX10_drop_52 : decode cX10_drop 52 = .ok (.aload_n 2, 1) := by decide +kernel
theorem dX10_drop_53 : decode cX10_drop 53 = .ok (.aload_n 0, 1) := by decide +kernel
theorem dX10_drop_54 : decode cX10_drop 54 = .ok (.getfield 61, 3) := by decide +kernel
theorem dX10_drop_57 : decode cX10_drop 57 = .ok (.iconst 1, 1) := by decide +kernel
theorem dX10_drop_58 : decode cX10_drop 58 = .ok (.iadd, 1) := by decide +kernel
theorem dX10_drop_59 : decode cX10_drop 59 = .ok (.invokevirtual 220, 3) := by decide +kernel
theorem dX10_drop_62 : decode cX10_drop 62 = .ok (.aload_n 0, 1) := by decide +kernel
theorem dX10_drop_63 : decode cX10_drop 63 = .ok (.bipush 7, 2) := by decide +kernel
theorem dX10_drop_65 : decode cX10_drop 65 = .ok (.iload_n 1, 1) := by decide +kernel
theorem dX10_drop_66 : decode cX10_drop 66 = .ok (.iconst 1, 1) := by decide +kernel
theorem dX10_drop_67 : decode cX10_drop 67 = .ok (.aconst_null, 1) := by decide +kernel
theorem dX10_drop_68 : decode cX10_drop 68 = .ok (.invokevirtual 154, 3) := by decide +kernel
theorem dX10_drop_71 : decode cX10_drop 71 = .ok (.ireturn, 1) := by decide +kernel
theorem dX10_few_0 : decode cX10_few 0 = .ok (.iload_n 1, 1) := by decide +kernel
theorem dX10_few_1 : decode cX10_few 1 = .ok (.ifCond .lt 14, 3) := by decide +kernel
theorem dX10_few_4 : decode cX10_few 4 = .ok (.iload_n 2, 1) := by decide +kernel
theorem dX10_few_5 : decode cX10_few 5 = .ok (.iconst 0, 1) := by decide +kernel
theorem dX10_few_6 : decode cX10_few 6 = .ok (.sipush 200, 3) := by decide +kernel
theorem dX10_few_9 : decode cX10_few 9 = .ok (.invokestatic 74, 3) := by decide +kernel
theorem dX10_few_12 : decode cX10_few 12 = .ok (.ifCond .ne 9, 3) := by decide +kernel
theorem dX10_few_15 : decode cX10_few 15 = .ok (.aload_n 0, 1) := by decide +kernel
theorem dX10_few_16 : decode cX10_few 16 = .ok (.iconst 4, 1) := by decide +kernel
theorem dX10_few_17 : decode cX10_few 17 = .ok (.invokevirtual 78, 3) := by decide +kernel
theorem dX10_few_20 : decode cX10_few 20 = .ok (.ireturn, 1) := by decide +kernel
theorem dX10_few_21 : decode cX10_few 21 = .ok (.iconst 0, 1) := by decide +kernel
theorem dX10_few_22 : decode cX10_few 22 = .ok (.istore_n 3, 1) := by decide +kernel
theorem dX10_few_23 : decode cX10_few 23 = .ok (.iload_n 3, 1) := by decide +kernel
theorem dX10_few_24 : decode cX10_few 24 = .ok (.aload_n 0, 1) := by decide +kernel
theorem dX10_few_25 : decode cX10_few 25 = .ok (.getfield 12, 3) := by decide +kernel
theorem dX10_few_28 : decode cX10_few 28 = .ok (.getfield 224, 3) := by decide +kernel
theorem dX10_few_31 : decode cX10_few 31 = .ok (.if_icmp .ge 38, 3) := by decide +kernel
theorem dX10_few_34 : decode cX10_few 34 = .ok (.aload_n 0, 1) := by decide +kernel
theorem dX10_few_35 : decode cX10_few 35 = .ok (.getfield 50, 3) := by decide +kernel
theorem dX10_few_38 : decode cX10_few 38 = .ok (.iload_n 3, 1) := by decide +kernel
theorem dX10_few_39 : decode cX10_few 39 = .ok (.aload_n 0, 1) := by decide +kernel
theorem dX10_few_40 : decode cX10_few 40 = .ok (.iload_n 3, 1) := by decide +kernel
theorem dX10_few_41 : decode cX10_few 41 = .ok (.iload_n 1, 1) := by decide +kernel
theorem dX10_few_42 : decode cX10_few 42 = .ok (.invokevirtual 227, 3) := by decide +kernel
theorem dX10_few_45 : decode cX10_few 45 = .ok (.ifCond .eq 16, 3) := by decide +kernel
theorem dX10_few_48 : decode cX10_few 48 = .ok (.aload_n 0, 1) := by decide +kernel
theorem dX10_few_49 : decode cX10_few 49 = .ok (.iload_n 3, 1) := by decide +kernel
theorem dX10_few_50 : decode cX10_few 50 = .ok (.invokevirtual 230, 3) := by decide +kernel
theorem dX10_few_53 : decode cX10_few 53 = .ok (.iload_n 2, 1) := by decide +kernel
theorem dX10_few_54 : decode cX10_few 54 = .ok (.if_icmp .lt 7, 3) := by decide +kernel
theorem dX10_few_57 : decode cX10_few 57 = .ok (.iconst 1, 1) := by decide +kernel
theorem dX10_few_58 : decode cX10_few 58 = .ok (.goto 4, 3) := by decide +kernel
theorem dX10_few_61 : decode cX10_few 61 = .ok (.iconst 0, 1) := by decide +kernel
theorem dX10_few_62 : decode cX10_few 62 = .ok (.bastore, 1) := by decide +kernel
theorem dX10_few_63 : decode cX10_few 63 = .ok (.iinc 3 1, 3) := by decide +kernel
theorem dX10_few_66 : decode cX10_few 66 = .ok (.goto (-43), 3) := by decide +kernel
theorem dX10_few_69 : decode cX10_few 69 = .ok (.iconst 0, 1) := by decide +kernel
theorem dX10_few_70 : decode cX10_few 70 = .ok (.istore_n 3, 1) := by decide +kernel
theorem dX10_few_71 : decode cX10_few 71 = .ok (.iconst 0, 1) := by decide +kernel
theorem dX10_few_72 : decode cX10_few 72 = .ok (.istore 4, 2) := by decide +kernel
theorem dX10_few_74 : decode cX10_few 74 = .ok (.iload 4, 2) := by decide +kernel
theorem dX10_few_76 : decode cX10_few 76 = .ok (.aload_n 0, 1) := by decide +kernel
theorem dX10_few_77 : decode cX10_few 77 = .ok (.getfield 12, 3) := by decide +kernel
theorem dX10_few_80 : decode cX10_few 80 = .ok (.getfield 224, 3) := by decide +kernel
theorem dX10_few_83 : decode cX10_few 83 = .ok (.if_icmp .ge 49, 3) := by decide +kernel
theorem dX10_few_86 : decode cX10_few 86 = .ok (.aload_n 0, 1) := by decide +kernel
theorem dX10_few_87 : decode cX10_few 87 = .ok (.getfield 12, 3) := by decide +kernel
theorem dX10_few_90 : decode cX10_few 90 = .ok (.iload 4, 2) := by decide +kernel
theorem dX10_few_92 : decode cX10_few 92 = .ok (.invokevirtual 116, 3) := by decide +kernel
theorem dX10_few_95 : decode cX10_few 95 = .ok (.astore 5, 2) := by decide +kernel
theorem dX10_few_97 : decode cX10_few 97 = .ok (.aload 5, 2) := by decide +kernel
theorem dX10_few_99 : decode cX10_few 99 = .ok (.ifnull 27, 3) := by decide +kernel
theorem dX10_few_102 : decode cX10_few 102 = .ok (.aload_n 0, 1) := by decide +kernel
theorem dX10_few_103 : decode cX10_few 103 = .ok (.getfield 50, 3) := by decide +kernel
theorem dX10_few_106 : decode cX10_few 106 = .ok (.iload 4, 2) := by decide +kernel
theorem dX10_few_108 : decode cX10_few 108 = .ok (.baload, 1) := by decide +kernel
theorem dX10_few_109 : decode cX10_few 109 = .ok (.ifCond .eq 17, 3) := by decide +kernel
theorem dX10_few_112 : decode cX10_few 112 = .ok (.aload 5, 2) := by decide +kernel
theorem dX10_few_114 : decode cX10_few 114 = .ok (.aload_n 0, 1) := by decide +kernel
theorem dX10_few_115 : decode cX10_few 115 = .ok (.getfield 61, 3) := by decide +kernel
theorem dX10_few_118 : decode cX10_few 118 = .ok (.iconst 1, 1) := by decide +kernel
theorem dX10_few_119 : decode cX10_few 119 = .ok (.iadd, 1) := by decide +kernel
theorem dX10_few_120 : decode cX10_few 120 = .ok (.invokevirtual 220, 3) := by decide +kernel
theorem dX10_few_123 : decode cX10_few 123 = .ok (.iinc 3 1, 3) := by decide +kernel
theorem dX10_few_126 : decode cX10_few 126 = .ok (.iinc 4 1, 3) := by decide +kernel
theorem dX10_few_129 : decode cX10_few 129 = .ok (.goto (-55), 3) := by decide +kernel
theorem dX10_few_132 : decode cX10_few 132 = .ok (.iload_n 3, 1) := by decide +kernel
theorem dX10_few_133 : decode cX10_few 133 = .ok (.ifCond .ne 10, 3) := by decide +kernel
theorem dX10_few_136 : decode cX10_few 136 = .ok (.aload_n 0, 1) := by decide +kernel
theorem dX10_few_137 : decode cX10_few 137 = .ok (.bipush 8, 2) := by decide +kernel
theorem dX10_few_139 : decode cX10_few 139 = .ok (.invokevirtual 78, 3) := by decide +kernel
theorem dX10_few_142 : decode cX10_few 142 = .ok (.ireturn, 1) := by decide +kernel
theorem dX10_few_143 : decode cX10_few 143 = .ok (.aload_n 0, 1) := by decide +kernel
theorem dX10_few_144 : decode cX10_few 144 = .ok (.bipush 8, 2) := by decide +kernel
theorem dX10_few_146 : decode cX10_few 146 = .ok (.iconst (-1), 1) := by decide +kernel
theorem dX10_few_147 : decode cX10_few 147 = .ok (.iload_n 3, 1) := by decide +kernel
theorem dX10_few_148 : decode cX10_few 148 = .ok (.aconst_null, 1) := by decide +kernel
theorem dX10_few_149 : decode cX10_few 149 = .ok (.invokevirtual 154, 3) := by decide +kernel
theorem dX10_few_152 : decode cX10_few 152 = .ok (.pop, 1) := by decide +kernel
theorem dX10_few_153 : decode cX10_few 153 = .ok (.iload_n 3, 1) := by decide +kernel
theorem dX10_few_154 : decode cX10_few 154 = .ok (.ireturn, 1) := by decide +kernel
theorem dX10_choose_0 : decode cX10_choose 0 = .ok (.aload_n 0, 1) := by decide +kernel
theorem dX10_choose_1 : decode cX10_choose 1 = .ok (.getfield 26, 3) := by decide +kernel
theorem dX10_choose_4 : decode cX10_choose 4 = .ok (.aload_n 0, 1) := by decide +kernel
theorem dX10_choose_5 : decode cX10_choose 5 = .ok (.getfield 12, 3) := by decide +kernel
theorem dX10_choose_8 : decode cX10_choose 8 = .ok (.invokevirtual 233, 3) := by decide +kernel
theorem dX10_choose_11 : decode cX10_choose 11 = .ok (.aload_n 0, 1) := by decide +kernel
theorem dX10_choose_12 : decode cX10_choose 12 = .ok (.getfield 26, 3) := by decide +kernel
theorem dX10_choose_15 : decode cX10_choose 15 = .ok (.aload_n 0, 1) := by decide +kernel
theorem dX10_choose_16 : decode cX10_choose 16 = .ok (.getfield 61, 3) := by decide +kernel
theorem dX10_choose_19 : decode cX10_choose 19 = .ok (.iconst 1, 1) := by decide +kernel
theorem dX10_choose_20 : decode cX10_choose 20 = .ok (.iadd, 1) := by decide +kernel
theorem dX10_choose_21 : decode cX10_choose 21 = .ok (.invokevirtual 237, 3) := by decide +kernel
theorem dX10_choose_24 : decode cX10_choose 24 = .ok (.istore_n 1, 1) := by decide +kernel
theorem dX10_choose_25 : decode cX10_choose 25 = .ok (.iload_n 1, 1) := by decide +kernel
theorem dX10_choose_26 : decode cX10_choose 26 = .ok (.ifCond .ne 10, 3) := by decide +kernel
theorem dX10_choose_29 : decode cX10_choose 29 = .ok (.aload_n 0, 1) := by decide +kernel
theorem dX10_choose_30 : decode cX10_choose 30 = .ok (.bipush 8, 2) := by decide +kernel
theorem dX10_choose_32 : decode cX10_choose 32 = .ok (.invokevirtual 78, 3) := by decide +kernel
theorem dX10_choose_35 : decode cX10_choose 35 = .ok (.ireturn, 1) := by decide +kernel
theorem dX10_choose_36 : decode cX10_choose 36 = .ok (.aload_n 0, 1) := by decide +kernel
theorem dX10_choose_37 : decode cX10_choose 37 = .ok (.bipush 9, 2) := by decide +kernel
theorem dX10_choose_39 : decode cX10_choose 39 = .ok (.iconst (-1), 1) := by decide +kernel
theorem dX10_choose_40 : decode cX10_choose 40 = .ok (.iload_n 1, 1) := by decide +kernel
theorem dX10_choose_41 : decode cX10_choose 41 = .ok (.aconst_null, 1) := by decide +kernel
theorem dX10_choose_42 : decode cX10_choose 42 = .ok (.invokevirtual 154, 3) := by decide +kernel
theorem dX10_choose_45 : decode cX10_choose 45 = .ok (.pop, 1) := by decide +kernel
theorem dX10_choose_46 : decode cX10_choose 46 = .ok (.iload_n 1, 1) := by decide +kernel
theorem dX10_choose_47 : decode cX10_choose 47 = .ok (.ireturn, 1) := by decide +kernel
theorem dX10_run_0 : decode cX10_run 0 = .ok (.iload_n 1, 1) := by decide +kernel
theorem dX10_run_1 : decode cX10_run 1 = .ok (.ifCond .ge 9, 3) := by decide +kernel
theorem dX10_run_4 : decode cX10_run 4 = .ok (.aload_n 0, 1) := by decide +kernel
theorem dX10_run_5 : decode cX10_run 5 = .ok (.iconst 4, 1) := by decide +kernel
theorem dX10_run_6 : decode cX10_run 6 = .ok (.invokevirtual 78, 3) := by decide +kernel
theorem dX10_run_9 : decode cX10_run 9 = .ok (.ireturn, 1) := by decide +kernel
theorem dX10_run_10 : decode cX10_run 10 = .ok (.iconst 0, 1) := by decide +kernel
theorem dX10_run_11 : decode cX10_run 11 = .ok (.istore_n 2, 1) := by decide +kernel
theorem dX10_run_12 : decode cX10_run 12 = .ok (.iconst 0, 1) := by decide +kernel
theorem dX10_run_13 : decode cX10_run 13 = .ok (.istore_n 3, 1) := by decide +kernel
theorem dX10_run_14 : decode cX10_run 14 = .ok (.iload_n 3, 1) := by decide +kernel
theorem dX10_run_15 : decode cX10_run 15 = .ok (.sipush 8001, 3) := by decide +kernel
theorem dX10_run_18 : decode cX10_run 18 = .ok (.if_icmp .ge 88, 3) := by decide +kernel
theorem dX10_run_21 : decode cX10_run 21 = .ok (.iload_n 2, 1) := by decide +kernel
theorem dX10_run_22 : decode cX10_run 22 = .ok (.istore 4, 2) := by decide +kernel
theorem dX10_run_24 : decode cX10_run 24 = .ok (.iconst 0, 1) := by decide +kernel
theorem dX10_run_25 : decode cX10_run 25 = .ok (.istore 5, 2) := by decide +kernel
theorem dX10_run_27 : decode cX10_run 27 = .ok (.iload 5, 2) := by decide +kernel
theorem dX10_run_29 : decode cX10_run 29 = .ok (.aload_n 0, 1) := by decide +kernel
theorem dX10_run_30 : decode cX10_run 30 = .ok (.getfield 12, 3) := by decide +kernel
theorem dX10_run_33 : decode cX10_run 33 = .ok (.getfield 224, 3) := by decide +kernel
theorem dX10_run_36 : decode cX10_run 36 = .ok (.if_icmp .ge 55, 3) := by decide +kernel
theorem dX10_run_39 : decode cX10_run 39 = .ok (.aload_n 0, 1) := by decide +kernel
theorem dX10_run_40 : decode cX10_run 40 = .ok (.getfield 12, 3) := by decide +kernel
theorem dX10_run_43 : decode cX10_run 43 = .ok (.iload 5, 2) := by decide +kernel
theorem dX10_run_45 : decode cX10_run 45 = .ok (.invokevirtual 116, 3) := by decide +kernel
theorem dX10_run_48 : decode cX10_run 48 = .ok (.astore 6, 2) := by decide +kernel
theorem dX10_run_50 : decode cX10_run 50 = .ok (.aload 6, 2) := by decide +kernel
theorem dX10_run_52 : decode cX10_run 52 = .ok (.ifnull 33, 3) := by decide +kernel
theorem dX10_run_55 : decode cX10_run 55 = .ok (.aload 6, 2) := by decide +kernel
theorem dX10_run_57 : decode cX10_run 57 = .ok (.invokevirtual 147, 3) := by decide +kernel
theorem dX10_run_60 : decode cX10_run 60 = .ok (.ifCond .eq 25, 3) := by decide +kernel
theorem dX10_run_63 : decode cX10_run 63 = .ok (.aload_n 0, 1) := by decide +kernel
theorem dX10_run_64 : decode cX10_run 64 = .ok (.getfield 12, 3) := by decide +kernel
theorem dX10_run_67 : decode cX10_run 67 = .ok (.iload 5, 2) := by decide +kernel
theorem dX10_run_69 : decode cX10_run 69 = .ok (.invokevirtual 240, 3) := by decide +kernel
theorem dX10_run_72 : decode cX10_run 72 = .ok (.ifnull 13, 3) := by decide +kernel
theorem dX10_run_75 : decode cX10_run 75 = .ok (.iload_n 2, 1) := by decide +kernel
theorem dX10_run_76 : decode cX10_run 76 = .ok (.aload_n 0, 1) := by decide +kernel
theorem dX10_run_77 : decode cX10_run 77 = .ok (.aload 6, 2) := by decide +kernel
theorem dX10_run_79 : decode cX10_run 79 = .ok (.iload_n 1, 1) := by decide +kernel
theorem dX10_run_80 : decode cX10_run 80 = .ok (.invokevirtual 150, 3) := by decide +kernel
theorem dX10_run_83 : decode cX10_run 83 = .ok (.iadd, 1) := by decide +kernel
theorem dX10_run_84 : decode cX10_run 84 = .ok (.istore_n 2, 1) := by decide +kernel
theorem dX10_run_85 : decode cX10_run 85 = .ok (.iinc 5 1, 3) := by decide +kernel
theorem dX10_run_88 : decode cX10_run 88 = .ok (.goto (-61), 3) := by decide +kernel
theorem dX10_run_91 : decode cX10_run 91 = .ok (.iload_n 2, 1) := by decide +kernel
theorem dX10_run_92 : decode cX10_run 92 = .ok (.iload 4, 2) := by decide +kernel
theorem dX10_run_94 : decode cX10_run 94 = .ok (.if_icmp .ne 6, 3) := by decide +kernel
theorem dX10_run_97 : decode cX10_run 97 = .ok (.goto 9, 3) := by decide +kernel
theorem dX10_run_100 : decode cX10_run 100 = .ok (.iinc 3 1, 3) := by decide +kernel
theorem dX10_run_103 : decode cX10_run 103 = .ok (.goto (-89), 3) := by decide +kernel
theorem dX10_run_106 : decode cX10_run 106 = .ok (.iload_n 2, 1) := by decide +kernel
theorem dX10_run_107 : decode cX10_run 107 = .ok (.ifCond .ne 10, 3) := by decide +kernel
theorem dX10_run_110 : decode cX10_run 110 = .ok (.aload_n 0, 1) := by decide +kernel
theorem dX10_run_111 : decode cX10_run 111 = .ok (.bipush 8, 2) := by decide +kernel
theorem dX10_run_113 : decode cX10_run 113 = .ok (.invokevirtual 78, 3) := by decide +kernel
theorem dX10_run_116 : decode cX10_run 116 = .ok (.ireturn, 1) := by decide +kernel
theorem dX10_run_117 : decode cX10_run 117 = .ok (.aload_n 0, 1) := by decide +kernel
theorem dX10_run_118 : decode cX10_run 118 = .ok (.bipush 10, 2) := by decide +kernel
theorem dX10_run_120 : decode cX10_run 120 = .ok (.iconst (-1), 1) := by decide +kernel
theorem dX10_run_121 : decode cX10_run 121 = .ok (.iload_n 2, 1) := by decide +kernel
theorem dX10_run_122 : decode cX10_run 122 = .ok (.aconst_null, 1) := by decide +kernel
theorem dX10_run_123 : decode cX10_run 123 = .ok (.invokevirtual 154, 3) := by decide +kernel
theorem dX10_run_126 : decode cX10_run 126 = .ok (.pop, 1) := by decide +kernel
theorem dX10_run_127 : decode cX10_run 127 = .ok (.iload_n 2, 1) := by decide +kernel
theorem dX10_run_128 : decode cX10_run 128 = .ok (.ireturn, 1) := by decide +kernel
theorem dX10_undo_0 : decode cX10_undo 0 = .ok (.aload_n 0, 1) := by decide +kernel
theorem dX10_undo_1 : decode cX10_undo 1 = .ok (.getfield 61, 3) := by decide +kernel
theorem dX10_undo_4 : decode cX10_undo 4 = .ok (.aload_n 0, 1) := by decide +kernel
theorem dX10_undo_5 : decode cX10_undo 5 = .ok (.getfield 65, 3) := by decide +kernel
theorem dX10_undo_8 : decode cX10_undo 8 = .ok (.if_icmp .le 17, 3) := by decide +kernel
theorem dX10_undo_11 : decode cX10_undo 11 = .ok (.aload_n 0, 1) := by decide +kernel
theorem dX10_undo_12 : decode cX10_undo 12 = .ok (.getfield 61, 3) := by decide +kernel
theorem dX10_undo_15 : decode cX10_undo 15 = .ok (.aload_n 0, 1) := by decide +kernel
theorem dX10_undo_16 : decode cX10_undo 16 = .ok (.getfield 57, 3) := by decide +kernel
theorem dX10_undo_19 : decode cX10_undo 19 = .ok (.invokevirtual 244, 3) := by decide +kernel
theorem dX10_undo_22 : decode cX10_undo 22 = .ok (.if_icmp .le 10, 3) := by decide +kernel
theorem dX10_undo_25 : decode cX10_undo 25 = .ok (.aload_n 0, 1) := by decide +kernel
theorem dX10_undo_26 : decode cX10_undo 26 = .ok (.bipush 8, 2) := by decide +kernel
theorem dX10_undo_28 : decode cX10_undo 28 = .ok (.invokevirtual 78, 3) := by decide +kernel
theorem dX10_undo_31 : decode cX10_undo 31 = .ok (.ireturn, 1) := by decide +kernel
theorem dX10_undo_32 : decode cX10_undo 32 = .ok (.aload_n 0, 1) := by decide +kernel
theorem dX10_undo_33 : decode cX10_undo 33 = .ok (.getfield 57, 3) := by decide +kernel
theorem dX10_undo_36 : decode cX10_undo 36 = .ok (.aload_n 0, 1) := by decide +kernel
theorem dX10_undo_37 : decode cX10_undo 37 = .ok (.getfield 61, 3) := by decide +kernel
theorem dX10_undo_40 : decode cX10_undo 40 = .ok (.iconst 1, 1) := by decide +kernel
theorem dX10_undo_41 : decode cX10_undo 41 = .ok (.isub, 1) := by decide +kernel
theorem dX10_undo_42 : decode cX10_undo 42 = .ok (.invokevirtual 247, 3) := by decide +kernel
theorem dX10_undo_45 : decode cX10_undo 45 = .ok (.checkcast 251, 3) := by decide +kernel
theorem dX10_undo_48 : decode cX10_undo 48 = .ok (.astore_n 1, 1) := by decide +kernel
theorem dX10_undo_49 : decode cX10_undo 49 = .ok (.aload_n 1, 1) := by decide +kernel
theorem dX10_undo_50 : decode cX10_undo 50 = .ok (.invokevirtual 253, 3) := by decide +kernel
theorem dX10_undo_53 : decode cX10_undo 53 = .ok (.aload_n 1, 1) := by decide +kernel
theorem dX10_undo_54 : decode cX10_undo 54 = .ok (.getfield 256, 3) := by decide +kernel
theorem dX10_undo_57 : decode cX10_undo 57 = .ok (.ifnull 10, 3) := by decide +kernel
theorem dX10_undo_60 : decode cX10_undo 60 = .ok (.aload_n 0, 1) := by decide +kernel
theorem dX10_undo_61 : decode cX10_undo 61 = .ok (.getfield 12, 3) := by decide +kernel
theorem dX10_undo_64 : decode cX10_undo 64 = .ok (.invokevirtual 260, 3) := by decide +kernel
theorem dX10_undo_67 : decode cX10_undo 67 = .ok (.aload_n 0, 1) := by decide +kernel
theorem dX10_undo_68 : decode cX10_undo 68 = .ok (.dup, 1) := by decide +kernel
theorem dX10_undo_69 : decode cX10_undo 69 = .ok (.getfield 61, 3) := by decide +kernel
theorem dX10_undo_72 : decode cX10_undo 72 = .ok (.iconst 1, 1) := by decide +kernel
theorem dX10_undo_73 : decode cX10_undo 73 = .ok (.isub, 1) := by decide +kernel
theorem dX10_undo_74 : decode cX10_undo 74 = .ok (.putfield 61, 3) := by decide +kernel
theorem dX10_undo_77 : decode cX10_undo 77 = .ok (.aload_n 0, 1) := by decide +kernel
theorem dX10_undo_78 : decode cX10_undo 78 = .ok (.iconst 0, 1) := by decide +kernel
theorem dX10_undo_79 : decode cX10_undo 79 = .ok (.putfield 71, 3) := by decide +kernel
theorem dX10_undo_82 : decode cX10_undo 82 = .ok (.aload_n 0, 1) := by decide +kernel
theorem dX10_undo_83 : decode cX10_undo 83 = .ok (.getfield 61, 3) := by decide +kernel
theorem dX10_undo_86 : decode cX10_undo 86 = .ok (.iconst 1, 1) := by decide +kernel
theorem dX10_undo_87 : decode cX10_undo 87 = .ok (.iadd, 1) := by decide +kernel
theorem dX10_undo_88 : decode cX10_undo 88 = .ok (.ireturn, 1) := by decide +kernel
theorem dX10_redo_0 : decode cX10_redo 0 = .ok (.aload_n 0, 1) := by decide +kernel
theorem dX10_redo_1 : decode cX10_redo 1 = .ok (.getfield 61, 3) := by decide +kernel
theorem dX10_redo_4 : decode cX10_redo 4 = .ok (.aload_n 0, 1) := by decide +kernel
theorem dX10_redo_5 : decode cX10_redo 5 = .ok (.getfield 57, 3) := by decide +kernel
theorem dX10_redo_8 : decode cX10_redo 8 = .ok (.invokevirtual 244, 3) := by decide +kernel
theorem dX10_redo_11 : decode cX10_redo 11 = .ok (.if_icmp .lt 10, 3) := by decide +kernel
theorem dX10_redo_14 : decode cX10_redo 14 = .ok (.aload_n 0, 1) := by decide +kernel
theorem dX10_redo_15 : decode cX10_redo 15 = .ok (.bipush 8, 2) := by decide +kernel
theorem dX10_redo_17 : decode cX10_redo 17 = .ok (.invokevirtual 78, 3) := by decide +kernel
theorem dX10_redo_20 : decode cX10_redo 20 = .ok (.ireturn, 1) := by decide +kernel
theorem dX10_redo_21 : decode cX10_redo 21 = .ok (.aload_n 0, 1) := by decide +kernel
theorem dX10_redo_22 : decode cX10_redo 22 = .ok (.getfield 57, 3) := by decide +kernel
theorem dX10_redo_25 : decode cX10_redo 25 = .ok (.aload_n 0, 1) := by decide +kernel
theorem dX10_redo_26 : decode cX10_redo 26 = .ok (.getfield 61, 3) := by decide +kernel
theorem dX10_redo_29 : decode cX10_redo 29 = .ok (.invokevirtual 247, 3) := by decide +kernel
theorem dX10_redo_32 : decode cX10_redo 32 = .ok (.checkcast 251, 3) := by decide +kernel
theorem dX10_redo_35 : decode cX10_redo 35 = .ok (.astore_n 1, 1) := by decide +kernel
theorem dX10_redo_36 : decode cX10_redo 36 = .ok (.aload_n 1, 1) := by decide +kernel
theorem dX10_redo_37 : decode cX10_redo 37 = .ok (.invokevirtual 263, 3) := by decide +kernel
theorem dX10_redo_40 : decode cX10_redo 40 = .ok (.aload_n 1, 1) := by decide +kernel
theorem dX10_redo_41 : decode cX10_redo 41 = .ok (.getfield 256, 3) := by decide +kernel
theorem dX10_redo_44 : decode cX10_redo 44 = .ok (.ifnull 15, 3) := by decide +kernel
theorem dX10_redo_47 : decode cX10_redo 47 = .ok (.aload_n 0, 1) := by decide +kernel
theorem dX10_redo_48 : decode cX10_redo 48 = .ok (.getfield 12, 3) := by decide +kernel
theorem dX10_redo_51 : decode cX10_redo 51 = .ok (.aload_n 1, 1) := by decide +kernel
theorem dX10_redo_52 : decode cX10_redo 52 = .ok (.getfield 256, 3) := by decide +kernel
theorem dX10_redo_55 : decode cX10_redo 55 = .ok (.invokevirtual 112, 3) := by decide +kernel
theorem dX10_redo_58 : decode cX10_redo 58 = .ok (.pop, 1) := by decide +kernel
theorem dX10_redo_59 : decode cX10_redo 59 = .ok (.aload_n 0, 1) := by decide +kernel
theorem dX10_redo_60 : decode cX10_redo 60 = .ok (.dup, 1) := by decide +kernel
theorem dX10_redo_61 : decode cX10_redo 61 = .ok (.getfield 61, 3) := by decide +kernel
theorem dX10_redo_64 : decode cX10_redo 64 = .ok (.iconst 1, 1) := by decide +kernel
theorem dX10_redo_65 : decode cX10_redo 65 = .ok (.iadd, 1) := by decide +kernel
theorem dX10_redo_66 : decode cX10_redo 66 = .ok (.putfield 61, 3) := by decide +kernel
theorem dX10_redo_69 : decode cX10_redo 69 = .ok (.aload_n 0, 1) := by decide +kernel
theorem dX10_redo_70 : decode cX10_redo 70 = .ok (.iconst 0, 1) := by decide +kernel
theorem dX10_redo_71 : decode cX10_redo 71 = .ok (.putfield 71, 3) := by decide +kernel
theorem dX10_redo_74 : decode cX10_redo 74 = .ok (.aload_n 0, 1) := by decide +kernel
theorem dX10_redo_75 : decode cX10_redo 75 = .ok (.getfield 61, 3) := by decide +kernel
theorem dX10_redo_78 : decode cX10_redo 78 = .ok (.ireturn, 1) := by decide +kernel
theorem dX10_meets_0 : decode cX10_meets 0 = .ok (.aload_n 0, 1) := by decide +kernel
theorem dX10_meets_1 : decode cX10_meets 1 = .ok (.getfield 12, 3) := by decide +kernel
theorem dX10_meets_4 : decode cX10_meets 4 = .ok (.iload_n 1, 1) := by decide +kernel
theorem dX10_meets_5 : decode cX10_meets 5 = .ok (.invokevirtual 240, 3) := by decide +kernel
theorem dX10_meets_8 : decode cX10_meets 8 = .ok (.astore_n 3, 1) := by decide +kernel
theorem dX10_meets_9 : decode cX10_meets 9 = .ok (.aload_n 0, 1) := by decide +kernel
theorem dX10_meets_10 : decode cX10_meets 10 = .ok (.getfield 12, 3) := by decide +kernel
theorem dX10_meets_13 : decode cX10_meets 13 = .ok (.iload_n 2, 1) := by decide +kernel
theorem dX10_meets_14 : decode cX10_meets 14 = .ok (.invokevirtual 240, 3) := by decide +kernel
theorem dX10_meets_17 : decode cX10_meets 17 = .ok (.astore 4, 2) := by decide +kernel
theorem dX10_meets_19 : decode cX10_meets 19 = .ok (.aload_n 3, 1) := by decide +kernel
theorem dX10_meets_20 : decode cX10_meets 20 = .ok (.ifnull 21, 3) := by decide +kernel
theorem dX10_meets_23 : decode cX10_meets 23 = .ok (.aload 4, 2) := by decide +kernel
theorem dX10_meets_25 : decode cX10_meets 25 = .ok (.ifnull 16, 3) := by decide +kernel
theorem dX10_meets_28 : decode cX10_meets 28 = .ok (.aload_n 3, 1) := by decide +kernel
theorem dX10_meets_29 : decode cX10_meets 29 = .ok (.aload 4, 2) := by decide +kernel
theorem dX10_meets_31 : decode cX10_meets 31 = .ok (.invokevirtual 266, 3) := by decide +kernel
theorem dX10_meets_34 : decode cX10_meets 34 = .ok (.ifCond .eq 7, 3) := by decide +kernel
theorem dX10_meets_37 : decode cX10_meets 37 = .ok (.iconst 1, 1) := by decide +kernel
theorem dX10_meets_38 : decode cX10_meets 38 = .ok (.goto 4, 3) := by decide +kernel
theorem dX10_meets_41 : decode cX10_meets 41 = .ok (.iconst 0, 1) := by decide +kernel
theorem dX10_meets_42 : decode cX10_meets 42 = .ok (.ireturn, 1) := by decide +kernel
theorem dX10_inside_0 : decode cX10_inside 0 = .ok (.aload_n 0, 1) := by decide +kernel
theorem dX10_inside_1 : decode cX10_inside 1 = .ok (.getfield 12, 3) := by decide +kernel
theorem dX10_inside_4 : decode cX10_inside 4 = .ok (.iload_n 3, 1) := by decide +kernel
theorem dX10_inside_5 : decode cX10_inside 5 = .ok (.invokevirtual 240, 3) := by decide +kernel
theorem dX10_inside_8 : decode cX10_inside 8 = .ok (.astore 4, 2) := by decide +kernel
theorem dX10_inside_10 : decode cX10_inside 10 = .ok (.aload 4, 2) := by decide +kernel
theorem dX10_inside_12 : decode cX10_inside 12 = .ok (.ifnull 19, 3) := by decide +kernel
theorem dX10_inside_15 : decode cX10_inside 15 = .ok (.aload 4, 2) := by decide +kernel
theorem dX10_inside_17 : decode cX10_inside 17 = .ok (.getfield 270, 3) := by decide +kernel
theorem dX10_inside_20 : decode cX10_inside 20 = .ok (.ifCond .eq 11, 3) := by decide +kernel
theorem dX10_inside_23 : decode cX10_inside 23 = .ok (.iload_n 1, 1) := by decide +kernel
theorem dX10_inside_24 : decode cX10_inside 24 = .ok (.iload_n 2, 1) := by decide +kernel
theorem dX10_inside_25 : decode cX10_inside 25 = .ok (.invokestatic 123, 3) := by decide +kernel
theorem dX10_inside_28 : decode cX10_inside 28 = .ok (.ifCond .ne 5, 3) := by decide +kernel
theorem dX10_inside_31 : decode cX10_inside 31 = .ok (.iconst (-1), 1) := by decide +kernel
theorem dX10_inside_32 : decode cX10_inside 32 = .ok (.ireturn, 1) := by decide +kernel
theorem dX10_inside_33 : decode cX10_inside 33 = .ok (.aload 4, 2) := by decide +kernel
theorem dX10_inside_35 : decode cX10_inside 35 = .ok (.iload_n 1, 1) := by decide +kernel
theorem dX10_inside_36 : decode cX10_inside 36 = .ok (.iload_n 2, 1) := by decide +kernel
theorem dX10_inside_37 : decode cX10_inside 37 = .ok (.invokevirtual 274, 3) := by decide +kernel
theorem dX10_inside_40 : decode cX10_inside 40 = .ok (.ireturn, 1) := by decide +kernel
theorem dX10_side_0 : decode cX10_side 0 = .ok (.aload_n 0, 1) := by decide +kernel
theorem dX10_side_1 : decode cX10_side 1 = .ok (.getfield 12, 3) := by decide +kernel
theorem dX10_side_4 : decode cX10_side 4 = .ok (.iload_n 3, 1) := by decide +kernel
