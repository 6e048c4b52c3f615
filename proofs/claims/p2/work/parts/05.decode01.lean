theorem dX5_init_30 : decode cX5_init 30 = .ok (.iload_n 1, 1) := by decide +kernel
theorem dX5_init_31 : decode cX5_init 31 = .ok (.putfield 28, 3) := by decide +kernel
theorem dX5_init_34 : decode cX5_init 34 = .ok (.return_, 1) := by decide +kernel
theorem dX5_copy_0 : decode cX5_copy 0 = .ok (.new 10, 3) := by decide +kernel
theorem dX5_copy_3 : decode cX5_copy 3 = .ok (.dup, 1) := by decide +kernel
theorem dX5_copy_4 : decode cX5_copy 4 = .ok (.aload_n 0, 1) := by decide +kernel
theorem dX5_copy_5 : decode cX5_copy 5 = .ok (.getfield 28, 3) := by decide +kernel
theorem dX5_copy_8 : decode cX5_copy 8 = .ok (.invokespecial 31, 3) := by decide +kernel
theorem dX5_copy_11 : decode cX5_copy 11 = .ok (.astore_n 1, 1) := by decide +kernel
theorem dX5_copy_12 : decode cX5_copy 12 = .ok (.aload_n 1, 1) := by decide +kernel
theorem dX5_copy_13 : decode cX5_copy 13 = .ok (.aload_n 0, 1) := by decide +kernel
theorem dX5_copy_14 : decode cX5_copy 14 = .ok (.getfield 9, 3) := by decide +kernel
theorem dX5_copy_17 : decode cX5_copy 17 = .ok (.putfield 9, 3) := by decide +kernel
theorem dX5_copy_20 : decode cX5_copy 20 = .ok (.aload_n 1, 1) := by decide +kernel
theorem dX5_copy_21 : decode cX5_copy 21 = .ok (.aload_n 0, 1) := by decide +kernel
theorem dX5_copy_22 : decode cX5_copy 22 = .ok (.getfield 15, 3) := by decide +kernel
theorem dX5_copy_25 : decode cX5_copy 25 = .ok (.putfield 15, 3) := by decide +kernel
theorem dX5_copy_28 : decode cX5_copy 28 = .ok (.aload_n 1, 1) := by decide +kernel
theorem dX5_copy_29 : decode cX5_copy 29 = .ok (.aload_n 0, 1) := by decide +kernel
theorem dX5_copy_30 : decode cX5_copy 30 = .ok (.getfield 19, 3) := by decide +kernel
theorem dX5_copy_33 : decode cX5_copy 33 = .ok (.putfield 19, 3) := by decide +kernel
theorem dX5_copy_36 : decode cX5_copy 36 = .ok (.aload_n 1, 1) := by decide +kernel
theorem dX5_copy_37 : decode cX5_copy 37 = .ok (.aload_n 0, 1) := by decide +kernel
theorem dX5_copy_38 : decode cX5_copy 38 = .ok (.getfield 22, 3) := by decide +kernel
theorem dX5_copy_41 : decode cX5_copy 41 = .ok (.putfield 22, 3) := by decide +kernel
theorem dX5_copy_44 : decode cX5_copy 44 = .ok (.aload_n 1, 1) := by decide +kernel
theorem dX5_copy_45 : decode cX5_copy 45 = .ok (.aload_n 0, 1) := by decide +kernel
theorem dX5_copy_46 : decode cX5_copy 46 = .ok (.getfield 25, 3) := by decide +kernel
theorem dX5_copy_49 : decode cX5_copy 49 = .ok (.putfield 25, 3) := by decide +kernel
theorem dX5_copy_52 : decode cX5_copy 52 = .ok (.aload_n 1, 1) := by decide +kernel
theorem dX5_copy_53 : decode cX5_copy 53 = .ok (.areturn, 1) := by decide +kernel
theorem dX6_init_0 : decode cX6_init 0 = .ok (.aload_n 0, 1) := by decide +kernel
theorem dX6_init_1 : decode cX6_init 1 = .ok (.invokespecial 3, 3) := by decide +kernel
theorem dX6_init_4 : decode cX6_init 4 = .ok (.aload_n 0, 1) := by decide +kernel
theorem dX6_init_5 : decode cX6_init 5 = .ok (.sipush 200, 3) := by decide +kernel
theorem dX6_init_8 : decode cX6_init 8 = .ok (.anewarray 9, 3) := by decide +kernel
theorem dX6_init_11 : decode cX6_init 11 = .ok (.putfield 11, 3) := by decide +kernel
theorem dX6_init_14 : decode cX6_init 14 = .ok (.aload_n 0, 1) := by decide +kernel
theorem dX6_init_15 : decode cX6_init 15 = .ok (.sipush 200, 3) := by decide +kernel
theorem dX6_init_18 : decode cX6_init 18 = .ok (.newarray .int, 2) := by decide +kernel
theorem dX6_init_20 : decode cX6_init 20 = .ok (.putfield 17, 3) := by decide +kernel
theorem dX6_init_23 : decode cX6_init 23 = .ok (.aload_n 0, 1) := by decide +kernel
theorem dX6_init_24 : decode cX6_init 24 = .ok (.sipush 400, 3) := by decide +kernel
theorem dX6_init_27 : decode cX6_init 27 = .ok (.newarray .int, 2) := by decide +kernel
theorem dX6_init_29 : decode cX6_init 29 = .ok (.putfield 21, 3) := by decide +kernel
theorem dX6_init_32 : decode cX6_init 32 = .ok (.aload_n 0, 1) := by decide +kernel
theorem dX6_init_33 : decode cX6_init 33 = .ok (.sipush 400, 3) := by decide +kernel
theorem dX6_init_36 : decode cX6_init 36 = .ok (.newarray .int, 2) := by decide +kernel
theorem dX6_init_38 : decode cX6_init 38 = .ok (.putfield 24, 3) := by decide +kernel
theorem dX6_init_41 : decode cX6_init 41 = .ok (.aload_n 0, 1) := by decide +kernel
theorem dX6_init_42 : decode cX6_init 42 = .ok (.sipush 400, 3) := by decide +kernel
theorem dX6_init_45 : decode cX6_init 45 = .ok (.newarray .int, 2) := by decide +kernel
theorem dX6_init_47 : decode cX6_init 47 = .ok (.putfield 27, 3) := by decide +kernel
theorem dX6_init_50 : decode cX6_init 50 = .ok (.aload_n 0, 1) := by decide +kernel
theorem dX6_init_51 : decode cX6_init 51 = .ok (.iconst 0, 1) := by decide +kernel
theorem dX6_init_52 : decode cX6_init 52 = .ok (.putfield 30, 3) := by decide +kernel
theorem dX6_init_55 : decode cX6_init 55 = .ok (.return_, 1) := by decide +kernel
theorem dX6_gather_0 : decode cX6_gather 0 = .ok (.aload_n 0, 1) := by decide +kernel
theorem dX6_gather_1 : decode cX6_gather 1 = .ok (.iconst 0, 1) := by decide +kernel
theorem dX6_gather_2 : decode cX6_gather 2 = .ok (.putfield 30, 3) := by decide +kernel
theorem dX6_gather_5 : decode cX6_gather 5 = .ok (.iconst 0, 1) := by decide +kernel
theorem dX6_gather_6 : decode cX6_gather 6 = .ok (.istore_n 2, 1) := by decide +kernel
theorem dX6_gather_7 : decode cX6_gather 7 = .ok (.iload_n 2, 1) := by decide +kernel
theorem dX6_gather_8 : decode cX6_gather 8 = .ok (.aload_n 1, 1) := by decide +kernel
theorem dX6_gather_9 : decode cX6_gather 9 = .ok (.getfield 34, 3) := by decide +kernel
theorem dX6_gather_12 : decode cX6_gather 12 = .ok (.if_icmp .ge 59, 3) := by decide +kernel
theorem dX6_gather_15 : decode cX6_gather 15 = .ok (.aload_n 1, 1) := by decide +kernel
theorem dX6_gather_16 : decode cX6_gather 16 = .ok (.iload_n 2, 1) := by decide +kernel
theorem dX6_gather_17 : decode cX6_gather 17 = .ok (.invokevirtual 39, 3) := by decide +kernel
theorem dX6_gather_20 : decode cX6_gather 20 = .ok (.astore_n 3, 1) := by decide +kernel
theorem dX6_gather_21 : decode cX6_gather 21 = .ok (.aload_n 1, 1) := by decide +kernel
theorem dX6_gather_22 : decode cX6_gather 22 = .ok (.iload_n 2, 1) := by decide +kernel
theorem dX6_gather_23 : decode cX6_gather 23 = .ok (.invokevirtual 43, 3) := by decide +kernel
theorem dX6_gather_26 : decode cX6_gather 26 = .ok (.astore 4, 2) := by decide +kernel
theorem dX6_gather_28 : decode cX6_gather 28 = .ok (.aload_n 3, 1) := by decide +kernel
theorem dX6_gather_29 : decode cX6_gather 29 = .ok (.ifnull 36, 3) := by decide +kernel
theorem dX6_gather_32 : decode cX6_gather 32 = .ok (.aload 4, 2) := by decide +kernel
theorem dX6_gather_34 : decode cX6_gather 34 = .ok (.ifnull 31, 3) := by decide +kernel
theorem dX6_gather_37 : decode cX6_gather 37 = .ok (.aload_n 3, 1) := by decide +kernel
theorem dX6_gather_38 : decode cX6_gather 38 = .ok (.getfield 47, 3) := by decide +kernel
theorem dX6_gather_41 : decode cX6_gather 41 = .ok (.getfield 51, 3) := by decide +kernel
theorem dX6_gather_44 : decode cX6_gather 44 = .ok (.iconst 3, 1) := by decide +kernel
theorem dX6_gather_45 : decode cX6_gather 45 = .ok (.if_icmp .ne 20, 3) := by decide +kernel
theorem dX6_gather_48 : decode cX6_gather 48 = .ok (.aload_n 0, 1) := by decide +kernel
theorem dX6_gather_49 : decode cX6_gather 49 = .ok (.aload_n 3, 1) := by decide +kernel
theorem dX6_gather_50 : decode cX6_gather 50 = .ok (.aload_n 3, 1) := by decide +kernel
theorem dX6_gather_51 : decode cX6_gather 51 = .ok (.getfield 56, 3) := by decide +kernel
theorem dX6_gather_54 : decode cX6_gather 54 = .ok (.iconst 1, 1) := by decide +kernel
theorem dX6_gather_55 : decode cX6_gather 55 = .ok (.iadd, 1) := by decide +kernel
theorem dX6_gather_56 : decode cX6_gather 56 = .ok (.aload 4, 2) := by decide +kernel
theorem dX6_gather_58 : decode cX6_gather 58 = .ok (.invokevirtual 59, 3) := by decide +kernel
theorem dX6_gather_61 : decode cX6_gather 61 = .ok (.imul, 1) := by decide +kernel
theorem dX6_gather_62 : decode cX6_gather 62 = .ok (.invokevirtual 65, 3) := by decide +kernel
theorem dX6_gather_65 : decode cX6_gather 65 = .ok (.iinc 2 1, 3) := by decide +kernel
theorem dX6_gather_68 : decode cX6_gather 68 = .ok (.goto (-61), 3) := by decide +kernel
theorem dX6_gather_71 : decode cX6_gather 71 = .ok (.iconst 0, 1) := by decide +kernel
theorem dX6_gather_72 : decode cX6_gather 72 = .ok (.istore_n 2, 1) := by decide +kernel
theorem dX6_gather_73 : decode cX6_gather 73 = .ok (.iload_n 2, 1) := by decide +kernel
theorem dX6_gather_74 : decode cX6_gather 74 = .ok (.aload_n 0, 1) := by decide +kernel
theorem dX6_gather_75 : decode cX6_gather 75 = .ok (.getfield 30, 3) := by decide +kernel
theorem dX6_gather_78 : decode cX6_gather 78 = .ok (.if_icmp .ge 96, 3) := by decide +kernel
theorem dX6_gather_81 : decode cX6_gather 81 = .ok (.aload_n 0, 1) := by decide +kernel
theorem dX6_gather_82 : decode cX6_gather 82 = .ok (.getfield 11, 3) := by decide +kernel
theorem dX6_gather_85 : decode cX6_gather 85 = .ok (.iload_n 2, 1) := by decide +kernel
theorem dX6_gather_86 : decode cX6_gather 86 = .ok (.aaload, 1) := by decide +kernel
theorem dX6_gather_87 : decode cX6_gather 87 = .ok (.ifnonnull 7, 3) := by decide +kernel
theorem dX6_gather_90 : decode cX6_gather 90 = .ok (.aconst_null, 1) := by decide +kernel
theorem dX6_gather_91 : decode cX6_gather 91 = .ok (.goto 15, 3) := by decide +kernel
theorem dX6_gather_94 : decode cX6_gather 94 = .ok (.aload_n 0, 1) := by decide +kernel
theorem dX6_gather_95 : decode cX6_gather 95 = .ok (.getfield 11, 3) := by decide +kernel
theorem dX6_gather_98 : decode cX6_gather 98 = .ok (.iload_n 2, 1) := by decide +kernel
theorem dX6_gather_99 : decode cX6_gather 99 = .ok (.aaload, 1) := by decide +kernel
theorem dX6_gather_100 : decode cX6_gather 100 = .ok (.getfield 47, 3) := by decide +kernel
theorem dX6_gather_103 : decode cX6_gather 103 = .ok (.getfield 69, 3) := by decide +kernel
theorem dX6_gather_106 : decode cX6_gather 106 = .ok (.astore_n 3, 1) := by decide +kernel
theorem dX6_gather_107 : decode cX6_gather 107 = .ok (.aload_n 3, 1) := by decide +kernel
theorem dX6_gather_108 : decode cX6_gather 108 = .ok (.ifnull 60, 3) := by decide +kernel
theorem dX6_gather_111 : decode cX6_gather 111 = .ok (.aload_n 3, 1) := by decide +kernel
theorem dX6_gather_112 : decode cX6_gather 112 = .ok (.getfield 73, 3) := by decide +kernel
theorem dX6_gather_115 : decode cX6_gather 115 = .ok (.ifCond .le 53, 3) := by decide +kernel
theorem dX6_gather_118 : decode cX6_gather 118 = .ok (.aload_n 0, 1) := by decide +kernel
theorem dX6_gather_119 : decode cX6_gather 119 = .ok (.iconst 2, 1) := by decide +kernel
theorem dX6_gather_120 : decode cX6_gather 120 = .ok (.iload_n 2, 1) := by decide +kernel
theorem dX6_gather_121 : decode cX6_gather 121 = .ok (.imul, 1) := by decide +kernel
theorem dX6_gather_122 : decode cX6_gather 122 = .ok (.aload_n 3, 1) := by decide +kernel
theorem dX6_gather_123 : decode cX6_gather 123 = .ok (.getfield 74, 3) := by decide +kernel
theorem dX6_gather_126 : decode cX6_gather 126 = .ok (.iconst 0, 1) := by decide +kernel
theorem dX6_gather_127 : decode cX6_gather 127 = .ok (.iaload, 1) := by decide +kernel
theorem dX6_gather_128 : decode cX6_gather 128 = .ok (.aload_n 3, 1) := by decide +kernel
theorem dX6_gather_129 : decode cX6_gather 129 = .ok (.getfield 77, 3) := by decide +kernel
theorem dX6_gather_132 : decode cX6_gather 132 = .ok (.iconst 0, 1) := by decide +kernel
theorem dX6_gather_133 : decode cX6_gather 133 = .ok (.iaload, 1) := by decide +kernel
theorem dX6_gather_134 : decode cX6_gather 134 = .ok (.invokevirtual 80, 3) := by decide +kernel
theorem dX6_gather_137 : decode cX6_gather 137 = .ok (.aload_n 0, 1) := by decide +kernel
theorem dX6_gather_138 : decode cX6_gather 138 = .ok (.iconst 2, 1) := by decide +kernel
theorem dX6_gather_139 : decode cX6_gather 139 = .ok (.iload_n 2, 1) := by decide +kernel
theorem dX6_gather_140 : decode cX6_gather 140 = .ok (.imul, 1) := by decide +kernel
theorem dX6_gather_141 : decode cX6_gather 141 = .ok (.iconst 1, 1) := by decide +kernel
theorem dX6_gather_142 : decode cX6_gather 142 = .ok (.iadd, 1) := by decide +kernel
theorem dX6_gather_143 : decode cX6_gather 143 = .ok (.aload_n 3, 1) := by decide +kernel
theorem dX6_gather_144 : decode cX6_gather 144 = .ok (.getfield 74, 3) := by decide +kernel
theorem dX6_gather_147 : decode cX6_gather 147 = .ok (.aload_n 3, 1) := by decide +kernel
theorem dX6_gather_148 : decode cX6_gather 148 = .ok (.getfield 73, 3) := by decide +kernel
theorem dX6_gather_151 : decode cX6_gather 151 = .ok (.iconst 1, 1) := by decide +kernel
theorem dX6_gather_152 : decode cX6_gather 152 = .ok (.isub, 1) := by decide +kernel
theorem dX6_gather_153 : decode cX6_gather 153 = .ok (.iaload, 1) := by decide +kernel
theorem dX6_gather_154 : decode cX6_gather 154 = .ok (.aload_n 3, 1) := by decide +kernel
theorem dX6_gather_155 : decode cX6_gather 155 = .ok (.getfield 77, 3) := by decide +kernel
theorem dX6_gather_158 : decode cX6_gather 158 = .ok (.aload_n 3, 1) := by decide +kernel
theorem dX6_gather_159 : decode cX6_gather 159 = .ok (.getfield 73, 3) := by decide +kernel
theorem dX6_gather_162 : decode cX6_gather 162 = .ok (.iconst 1, 1) := by decide +kernel
theorem dX6_gather_163 : decode cX6_gather 163 = .ok (.isub, 1) := by decide +kernel
theorem dX6_gather_164 : decode cX6_gather 164 = .ok (.iaload, 1) := by decide +kernel
theorem dX6_gather_165 : decode cX6_gather 165 = .ok (.invokevirtual 80, 3) := by decide +kernel
theorem dX6_gather_168 : decode cX6_gather 168 = .ok (.iinc 2 1, 3) := by decide +kernel
theorem dX6_gather_171 : decode cX6_gather 171 = .ok (.goto (-98), 3) := by decide +kernel
theorem dX6_gather_174 : decode cX6_gather 174 = .ok (.return_, 1) := by decide +kernel
theorem dX6_insert_0 : decode cX6_insert 0 = .ok (.aload_n 0, 1) := by decide +kernel
theorem dX6_insert_1 : decode cX6_insert 1 = .ok (.getfield 30, 3) := by decide +kernel
theorem dX6_insert_4 : decode cX6_insert 4 = .ok (.aload_n 0, 1) := by decide +kernel
theorem dX6_insert_5 : decode cX6_insert 5 = .ok (.getfield 11, 3) := by decide +kernel
theorem dX6_insert_8 : decode cX6_insert 8 = .ok (.arraylength, 1) := by decide +kernel
theorem dX6_insert_9 : decode cX6_insert 9 = .ok (.if_icmp .lt 4, 3) := by decide +kernel
theorem dX6_insert_12 : decode cX6_insert 12 = .ok (.return_, 1) := by decide +kernel
theorem dX6_insert_13 : decode cX6_insert 13 = .ok (.aload_n 0, 1) := by decide +kernel
theorem dX6_insert_14 : decode cX6_insert 14 = .ok (.getfield 30, 3) := by decide +kernel
theorem dX6_insert_17 : decode cX6_insert 17 = .ok (.istore_n 3, 1) := by decide +kernel
theorem dX6_insert_18 : decode cX6_insert 18 = .ok (.aload_n 0, 1) := by decide +kernel
theorem dX6_insert_19 : decode cX6_insert 19 = .ok (.getfield 30, 3) := by decide +kernel
theorem dX6_insert_22 : decode cX6_insert 22 = .ok (.iconst 1, 1) := by decide +kernel
theorem dX6_insert_23 : decode cX6_insert 23 = .ok (.isub, 1) := by decide +kernel
theorem dX6_insert_24 : decode cX6_insert 24 = .ok (.istore 4, 2) := by decide +kernel
theorem dX6_insert_26 : decode cX6_insert 26 = .ok (.iload 4, 2) := by decide +kernel
theorem dX6_insert_28 : decode cX6_insert 28 = .ok (.ifCond .lt 55, 3) := by decide +kernel
theorem dX6_insert_31 : decode cX6_insert 31 = .ok (.aload_n 0, 1) := by decide +kernel
theorem dX6_insert_32 : decode cX6_insert 32 = .ok (.getfield 17, 3) := by decide +kernel
theorem dX6_insert_35 : decode cX6_insert 35 = .ok (.iload 4, 2) := by decide +kernel
theorem dX6_insert_37 : decode cX6_insert 37 = .ok (.iaload, 1) := by decide +kernel
theorem dX6_insert_38 : decode cX6_insert 38 = .ok (.iload_n 2, 1) := by decide +kernel
theorem dX6_insert_39 : decode cX6_insert 39 = .ok (.if_icmp .le 44, 3) := by decide +kernel
theorem dX6_insert_42 : decode cX6_insert 42 = .ok (.aload_n 0, 1) := by decide +kernel
theorem dX6_insert_43 : decode cX6_insert 43 = .ok (.getfield 11, 3) := by decide +kernel
theorem dX6_insert_46 : decode cX6_insert 46 = .ok (.iload 4, 2) := by decide +kernel
theorem dX6_insert_48 : decode cX6_insert 48 = .ok (.iconst 1, 1) := by decide +kernel
theorem dX6_insert_49 : decode cX6_insert 49 = .ok (.iadd, 1) := by decide +kernel
theorem dX6_insert_50 : decode cX6_insert 50 = .ok (.aload_n 0, 1) := by decide +kernel
theorem dX6_insert_51 : decode cX6_insert 51 = .ok (.getfield 11, 3) := by decide +kernel
theorem dX6_insert_54 : decode cX6_insert 54 = .ok (.iload 4, 2) := by decide +kernel
theorem dX6_insert_56 : decode cX6_insert 56 = .ok (.aaload, 1) := by decide +kernel
theorem dX6_insert_57 : decode cX6_insert 57 = .ok (.aastore, 1) := by decide +kernel
theorem dX6_insert_58 : decode cX6_insert 58 = .ok (.aload_n 0, 1) := by decide +kernel
theorem dX6_insert_59 : decode cX6_insert 59 = .ok (.getfield 17, 3) := by decide +kernel
theorem dX6_insert_62 : decode cX6_insert 62 = .ok (.iload 4, 2) := by decide +kernel
theorem dX6_insert_64 : decode cX6_insert 64 = .ok (.iconst 1, 1) := by decide +kernel
theorem dX6_insert_65 : decode cX6_insert 65 = .ok (.iadd, 1) := by decide +kernel
theorem dX6_insert_66 : decode cX6_insert 66 = .ok (.aload_n 0, 1) := by decide +kernel
theorem dX6_insert_67 : decode cX6_insert 67 = .ok (.getfield 17, 3) := by decide +kernel
theorem dX6_insert_70 : decode cX6_insert 70 = .ok (.iload 4, 2) := by decide +kernel
theorem dX6_insert_72 : decode cX6_insert 72 = .ok (.iaload, 1) := by decide +kernel
theorem dX6_insert_73 : decode cX6_insert 73 = .ok (.iastore, 1) := by decide +kernel
theorem dX6_insert_74 : decode cX6_insert 74 = .ok (.iload 4, 2) := by decide +kernel
theorem dX6_insert_76 : decode cX6_insert 76 = .ok (.istore_n 3, 1) := by decide +kernel
theorem dX6_insert_77 : decode cX6_insert 77 = .ok (.iinc 4 (-1), 3) := by decide +kernel
theorem dX6_insert_80 : decode cX6_insert 80 = .ok (.goto (-54), 3) := by decide +kernel
theorem dX6_insert_83 : decode cX6_insert 83 = .ok (.aload_n 0, 1) := by decide +kernel
theorem dX6_insert_84 : decode cX6_insert 84 = .ok (.getfield 11, 3) := by decide +kernel
theorem dX6_insert_87 : decode cX6_insert 87 = .ok (.iload_n 3, 1) := by decide +kernel
theorem dX6_insert_88 : decode cX6_insert 88 = .ok (.aload_n 1, 1) := by decide +kernel
theorem dX6_insert_89 : decode cX6_insert 89 = .ok (.aastore, 1) := by decide +kernel
theorem dX6_insert_90 : decode cX6_insert 90 = .ok (.aload_n 0, 1) := by decide +kernel
theorem dX6_insert_91 : decode cX6_insert 91 = .ok (.getfield 17, 3) := by decide +kernel
theorem dX6_insert_94 : decode cX6_insert 94 = .ok (.iload_n 3, 1) := by decide +kernel
theorem dX6_insert_95 : decode cX6_insert 95 = .ok (.iload_n 2, 1) := by decide +kernel
theorem dX6_insert_96 : decode cX6_insert 96 = .ok (.iastore, 1) := by decide +kernel
theorem dX6_insert_97 : decode cX6_insert 97 = .ok (.aload_n 0, 1) := by decide +kernel
theorem dX6_insert_98 : decode cX6_insert 98 = .ok (.dup, 1) := by decide +kernel
theorem dX6_insert_99 : decode cX6_insert 99 = .ok (.getfield 30, 3) := by decide +kernel
theorem dX6_insert_102 : decode cX6_insert 102 = .ok (.iconst 1, 1) := by decide +kernel
theorem dX6_insert_103 : decode cX6_insert 103 = .ok (.iadd, 1) := by decide +kernel
theorem dX6_insert_104 : decode cX6_insert 104 = .ok (.putfield 30, 3) := by decide +kernel
theorem dX6_insert_107 : decode cX6_insert 107 = .ok (.return_, 1) := by decide +kernel
theorem dX6_setEnd_0 : decode cX6_setEnd 0 = .ok (.aload_n 0, 1) := by decide +kernel
theorem dX6_setEnd_1 : decode cX6_setEnd 1 = .ok (.getfield 21, 3) := by decide +kernel
theorem dX6_setEnd_4 : decode cX6_setEnd 4 = .ok (.iload_n 1, 1) := by decide +kernel
theorem dX6_setEnd_5 : decode cX6_setEnd 5 = .ok (.iload_n 2, 1) := by decide +kernel
theorem dX6_setEnd_6 : decode cX6_setEnd 6 = .ok (.iastore, 1) := by decide +kernel
theorem dX6_setEnd_7 : decode cX6_setEnd 7 = .ok (.aload_n 0, 1) := by decide +kernel
theorem dX6_setEnd_8 : decode cX6_setEnd 8 = .ok (.getfield 24, 3) := by decide +kernel
theorem dX6_setEnd_11 : decode cX6_setEnd 11 = .ok (.iload_n 1, 1) := by decide +kernel
theorem dX6_setEnd_12 : decode cX6_setEnd 12 = .ok (.iload_n 3, 1) := by decide +kernel
theorem dX6_setEnd_13 : decode cX6_setEnd 13 = .ok (.iastore, 1) := by decide +kernel
theorem dX6_setEnd_14 : decode cX6_setEnd 14 = .ok (.iconst 0, 1) := by decide +kernel
theorem dX6_setEnd_15 : decode cX6_setEnd 15 = .ok (.istore 4, 2) := by decide +kernel
theorem dX6_setEnd_17 : decode cX6_setEnd 17 = .ok (.iload 4, 2) := by decide +kernel
theorem dX6_setEnd_19 : decode cX6_setEnd 19 = .ok (.iload_n 1, 1) := by decide +kernel
theorem dX6_setEnd_20 : decode cX6_setEnd 20 = .ok (.if_icmp .ge 31, 3) := by decide +kernel
theorem dX6_setEnd_23 : decode cX6_setEnd 23 = .ok (.aload_n 0, 1) := by decide +kernel
theorem dX6_setEnd_24 : decode cX6_setEnd 24 = .ok (.getfield 21, 3) := by decide +kernel
theorem dX6_setEnd_27 : decode cX6_setEnd 27 = .ok (.iload 4, 2) := by decide +kernel
theorem dX6_setEnd_29 : decode cX6_setEnd 29 = .ok (.iaload, 1) := by decide +kernel
theorem dX6_setEnd_30 : decode cX6_setEnd 30 = .ok (.iload_n 2, 1) := by decide +kernel
theorem dX6_setEnd_31 : decode cX6_setEnd 31 = .ok (.if_icmp .ne 14, 3) := by decide +kernel
theorem dX6_setEnd_34 : decode cX6_setEnd 34 = .ok (.aload_n 0, 1) := by decide +kernel
theorem dX6_setEnd_35 : decode cX6_setEnd 35 = .ok (.getfield 24, 3) := by decide +kernel
theorem dX6_setEnd_38 : decode cX6_setEnd 38 = .ok (.iload 4, 2) := by decide +kernel
theorem dX6_setEnd_40 : decode cX6_setEnd 40 = .ok (.iaload, 1) := by decide +kernel
theorem dX6_setEnd_41 : decode cX6_setEnd 41 = .ok (.iload_n 3, 1) := by decide +kernel
theorem dX6_setEnd_42 : decode cX6_setEnd 42 = .ok (.if_icmp .eq 9, 3) := by decide +kernel
theorem dX6_setEnd_45 : decode cX6_setEnd 45 = .ok (.iinc 4 1, 3) := by decide +kernel
theorem dX6_setEnd_48 : decode cX6_setEnd 48 = .ok (.goto (-31), 3) := by decide +kernel
theorem dX6_setEnd_51 : decode cX6_setEnd 51 = .ok (.aload_n 0, 1) := by decide +kernel
theorem dX6_setEnd_52 : decode cX6_setEnd 52 = .ok (.getfield 27, 3) := by decide +kernel
theorem dX6_setEnd_55 : decode cX6_setEnd 55 = .ok (.iload_n 1, 1) := by decide +kernel
theorem dX6_setEnd_56 : decode cX6_setEnd 56 = .ok (.iload 4, 2) := by decide +kernel
theorem dX6_setEnd_58 : decode cX6_setEnd 58 = .ok (.iastore, 1) := by decide +kernel
theorem dX6_setEnd_59 : decode cX6_setEnd 59 = .ok (.return_, 1) := by decide +kernel
theorem dX6_leaveOut_0 : decode cX6_leaveOut 0 = .ok (.iconst 0, 1) := by decide +kernel
theorem dX6_leaveOut_1 : decode cX6_leaveOut 1 = .ok (.istore_n 2, 1) := by decide +kernel
theorem dX6_leaveOut_2 : decode cX6_leaveOut 2 = .ok (.iconst 0, 1) := by decide +kernel
theorem dX6_leaveOut_3 : decode cX6_leaveOut 3 = .ok (.istore_n 3, 1) := by decide +kernel
theorem dX6_leaveOut_4 : decode cX6_leaveOut 4 = .ok (.iload_n 3, 1) := by decide +kernel
theorem dX6_leaveOut_5 : decode cX6_leaveOut 5 = .ok (.aload_n 0, 1) := by decide +kernel
theorem dX6_leaveOut_6 : decode cX6_leaveOut 6 = .ok (.getfield 30, 3) := by decide +kernel
theorem dX6_leaveOut_9 : decode cX6_leaveOut 9 = .ok (.if_icmp .ge 71, 3) := by decide +kernel
theorem dX6_leaveOut_12 : decode cX6_leaveOut 12 = .ok (.aload_n 0, 1) := by decide +kernel
theorem dX6_leaveOut_13 : decode cX6_leaveOut 13 = .ok (.getfield 27, 3) := by decide +kernel
theorem dX6_leaveOut_16 : decode cX6_leaveOut 16 = .ok (.iconst 2, 1) := by decide +kernel
theorem dX6_leaveOut_17 : decode cX6_leaveOut 17 = .ok (.iload_n 3, 1) := by decide +kernel
theorem dX6_leaveOut_18 : decode cX6_leaveOut 18 = .ok (.imul, 1) := by decide +kernel
theorem dX6_leaveOut_19 : decode cX6_leaveOut 19 = .ok (.iaload, 1) := by decide +kernel
theorem dX6_leaveOut_20 : decode cX6_leaveOut 20 = .ok (.istore 4, 2) := by decide +kernel
theorem dX6_leaveOut_22 : decode cX6_leaveOut 22 = .ok (.aload_n 0, 1) := by decide +kernel
theorem dX6_leaveOut_23 : decode cX6_leaveOut 23 = .ok (.getfield 27, 3) := by decide +kernel
theorem dX6_leaveOut_26 : decode cX6_leaveOut 26 = .ok (.iconst 2, 1) := by decide +kernel
theorem dX6_leaveOut_27 : decode cX6_leaveOut 27 = .ok (.iload_n 3, 1) := by decide +kernel
theorem dX6_leaveOut_28 : decode cX6_leaveOut 28 = .ok (.imul, 1) := by decide +kernel
theorem dX6_leaveOut_29 : decode cX6_leaveOut 29 = .ok (.iconst 1, 1) := by decide +kernel
theorem dX6_leaveOut_30 : decode cX6_leaveOut 30 = .ok (.iadd, 1) := by decide +kernel
theorem dX6_leaveOut_31 : decode cX6_leaveOut 31 = .ok (.iaload, 1) := by decide +kernel
theorem dX6_leaveOut_32 : decode cX6_leaveOut 32 = .ok (.istore 5, 2) := by decide +kernel
theorem dX6_leaveOut_34 : decode cX6_leaveOut 34 = .ok (.iload 4, 2) := by decide +kernel
theorem dX6_leaveOut_36 : decode cX6_leaveOut 36 = .ok (.iload 5, 2) := by decide +kernel
theorem dX6_leaveOut_38 : decode cX6_leaveOut 38 = .ok (.if_icmp .eq 14, 3) := by decide +kernel
theorem dX6_leaveOut_41 : decode cX6_leaveOut 41 = .ok (.aload_n 0, 1) := by decide +kernel
theorem dX6_leaveOut_42 : decode cX6_leaveOut 42 = .ok (.iload 4, 2) := by decide +kernel
theorem dX6_leaveOut_44 : decode cX6_leaveOut 44 = .ok (.iload 5, 2) := by decide +kernel
theorem dX6_leaveOut_46 : decode cX6_leaveOut 46 = .ok (.invokevirtual 84, 3) := by decide +kernel
theorem dX6_leaveOut_49 : decode cX6_leaveOut 49 = .ok (.goto 25, 3) := by decide +kernel
theorem dX6_leaveOut_52 : decode cX6_leaveOut 52 = .ok (.aload_n 0, 1) := by decide +kernel
theorem dX6_leaveOut_53 : decode cX6_leaveOut 53 = .ok (.getfield 11, 3) := by decide +kernel
theorem dX6_leaveOut_56 : decode cX6_leaveOut 56 = .ok (.iload_n 3, 1) := by decide +kernel
theorem dX6_leaveOut_57 : decode cX6_leaveOut 57 = .ok (.aaload, 1) := by decide +kernel
theorem dX6_leaveOut_58 : decode cX6_leaveOut 58 = .ok (.ifnull 16, 3) := by decide +kernel
theorem dX6_leaveOut_61 : decode cX6_leaveOut 61 = .ok (.aload_n 0, 1) := by decide +kernel
theorem dX6_leaveOut_62 : decode cX6_leaveOut 62 = .ok (.getfield 11, 3) := by decide +kernel
theorem dX6_leaveOut_65 : decode cX6_leaveOut 65 = .ok (.iload_n 3, 1) := by decide +kernel
theorem dX6_leaveOut_66 : decode cX6_leaveOut 66 = .ok (.aaload, 1) := by decide +kernel
theorem dX6_leaveOut_67 : decode cX6_leaveOut 67 = .ok (.iload_n 1, 1) := by decide +kernel
theorem dX6_leaveOut_68 : decode cX6_leaveOut 68 = .ok (.invokevirtual 88, 3) := by decide +kernel
theorem dX6_leaveOut_71 : decode cX6_leaveOut 71 = .ok (.iinc 2 1, 3) := by decide +kernel
theorem dX6_leaveOut_74 : decode cX6_leaveOut 74 = .ok (.iinc 3 1, 3) := by decide +kernel
theorem dX6_leaveOut_77 : decode cX6_leaveOut 77 = .ok (.goto (-73), 3) := by decide +kernel
theorem dX6_leaveOut_80 : decode cX6_leaveOut 80 = .ok (.iload_n 2, 1) := by decide +kernel
theorem dX6_leaveOut_81 : decode cX6_leaveOut 81 = .ok (.ireturn, 1) := by decide +kernel
theorem dX6_uniteGroups_0 : decode cX6_uniteGroups 0 = .ok (.iconst 0, 1) := by decide +kernel
theorem dX6_uniteGroups_1 : decode cX6_uniteGroups 1 = .ok (.istore_n 3, 1) := by decide +kernel
theorem dX6_uniteGroups_2 : decode cX6_uniteGroups 2 = .ok (.iload_n 3, 1) := by decide +kernel
theorem dX6_uniteGroups_3 : decode cX6_uniteGroups 3 = .ok (.iconst 2, 1) := by decide +kernel
theorem dX6_uniteGroups_4 : decode cX6_uniteGroups 4 = .ok (.aload_n 0, 1) := by decide +kernel
theorem dX6_uniteGroups_5 : decode cX6_uniteGroups 5 = .ok (.getfield 30, 3) := by decide +kernel
theorem dX6_uniteGroups_8 : decode cX6_uniteGroups 8 = .ok (.imul, 1) := by decide +kernel
theorem dX6_uniteGroups_9 : decode cX6_uniteGroups 9 = .ok (.if_icmp .ge 26, 3) := by decide +kernel
theorem dX6_uniteGroups_12 : decode cX6_uniteGroups 12 = .ok (.aload_n 0, 1) := by decide +kernel
theorem dX6_uniteGroups_13 : decode cX6_uniteGroups 13 = .ok (.getfield 27, 3) := by decide +kernel
theorem dX6_uniteGroups_16 : decode cX6_uniteGroups 16 = .ok (.iload_n 3, 1) := by decide +kernel
theorem dX6_uniteGroups_17 : decode cX6_uniteGroups 17 = .ok (.iaload, 1) := by decide +kernel
theorem dX6_uniteGroups_18 : decode cX6_uniteGroups 18 = .ok (.iload_n 2, 1) := by decide +kernel
theorem dX6_uniteGroups_19 : decode cX6_uniteGroups 19 = .ok (.if_icmp .ne 10, 3) := by decide +kernel
theorem dX6_uniteGroups_22 : decode cX6_uniteGroups 22 = .ok (.aload_n 0, 1) := by decide +kernel
theorem dX6_uniteGroups_23 : decode cX6_uniteGroups 23 = .ok (.getfield 27, 3) := by decide +kernel
theorem dX6_uniteGroups_26 : decode cX6_uniteGroups 26 = .ok (.iload_n 3, 1) := by decide +kernel
theorem dX6_uniteGroups_27 : decode cX6_uniteGroups 27 = .ok (.iload_n 1, 1) := by decide +kernel
theorem dX6_uniteGroups_28 : decode cX6_uniteGroups 28 = .ok (.iastore, 1) := by decide +kernel
theorem dX6_uniteGroups_29 : decode cX6_uniteGroups 29 = .ok (.iinc 3 1, 3) := by decide +kernel
theorem dX6_uniteGroups_32 : decode cX6_uniteGroups 32 = .ok (.goto (-30), 3) := by decide +kernel
theorem dX6_uniteGroups_35 : decode cX6_uniteGroups 35 = .ok (.return_, 1) := by decide +kernel
theorem dX7_init_0 : decode cX7_init 0 = .ok (.aload_n 0, 1) := by decide +kernel
theorem dX7_init_1 : decode cX7_init 1 = .ok (.invokespecial 3, 3) := by decide +kernel
theorem dX7_init_4 : decode cX7_init 4 = .ok (.aload_n 0, 1) := by decide +kernel
theorem dX7_init_5 : decode cX7_init 5 = .ok (.iconst 0, 1) := by decide +kernel
theorem dX7_init_6 : decode cX7_init 6 = .ok (.putfield 9, 3) := by decide +kernel
theorem dX7_init_9 : decode cX7_init 9 = .ok (.iload_n 1, 1) := by decide +kernel
theorem dX7_init_10 : decode cX7_init 10 = .ok (.iconst 1, 1) := by decide +kernel
theorem dX7_init_11 : decode cX7_init 11 = .ok (.invokestatic 15, 3) := by decide +kernel
theorem dX7_init_14 : decode cX7_init 14 = .ok (.istore_n 3, 1) := by decide +kernel
theorem dX7_init_15 : decode cX7_init 15 = .ok (.aload_n 0, 1) := by decide +kernel
theorem dX7_init_16 : decode cX7_init 16 = .ok (.iload_n 3, 1) := by decide +kernel
theorem dX7_init_17 : decode cX7_init 17 = .ok (.newarray .int, 2) := by decide +kernel
theorem dX7_init_19 : decode cX7_init 19 = .ok (.putfield 21, 3) := by decide +kernel
theorem dX7_init_22 : decode cX7_init 22 = .ok (.aload_n 0, 1) := by decide +kernel
theorem dX7_init_23 : decode cX7_init 23 = .ok (.iload_n 3, 1) := by decide +kernel
theorem dX7_init_24 : decode cX7_init 24 = .ok (.newarray .int, 2) := by decide +kernel
theorem dX7_init_26 : decode cX7_init 26 = .ok (.putfield 25, 3) := by decide +kernel
theorem dX7_init_29 : decode cX7_init 29 = .ok (.aload_n 0, 1) := by decide +kernel
theorem dX7_init_30 : decode cX7_init 30 = .ok (.iload_n 2, 1) := by decide +kernel
theorem dX7_init_31 : decode cX7_init 31 = .ok (.putfield 28, 3) := by decide +kernel
theorem dX7_init_34 : decode cX7_init 34 = .ok (.return_, 1) := by decide +kernel
theorem dX7_put_0 : decode cX7_put 0 = .ok (.aload_n 0, 1) := by decide +kernel
theorem dX7_put_1 : decode cX7_put 1 = .ok (.getfield 9, 3) := by decide +kernel
theorem dX7_put_4 : decode cX7_put 4 = .ok (.aload_n 0, 1) := by decide +kernel
theorem dX7_put_5 : decode cX7_put 5 = .ok (.getfield 21, 3) := by decide +kernel
theorem dX7_put_8 : decode cX7_put 8 = .ok (.arraylength, 1) := by decide +kernel
theorem dX7_put_9 : decode cX7_put 9 = .ok (.if_icmp .ge 33, 3) := by decide +kernel
theorem dX7_put_12 : decode cX7_put 12 = .ok (.aload_n 0, 1) := by decide +kernel
theorem dX7_put_13 : decode cX7_put 13 = .ok (.getfield 21, 3) := by decide +kernel
theorem dX7_put_16 : decode cX7_put 16 = .ok (.aload_n 0, 1) := by decide +kernel
theorem dX7_put_17 : decode cX7_put 17 = .ok (.getfield 9, 3) := by decide +kernel
theorem dX7_put_20 : decode cX7_put 20 = .ok (.iload_n 1, 1) := by decide +kernel
theorem dX7_put_21 : decode cX7_put 21 = .ok (.iastore, 1) := by decide +kernel
theorem dX7_put_22 : decode cX7_put 22 = .ok (.aload_n 0, 1) := by decide +kernel
theorem dX7_put_23 : decode cX7_put 23 = .ok (.getfield 25, 3) := by decide +kernel
theorem dX7_put_26 : decode cX7_put 26 = .ok (.aload_n 0, 1) := by decide +kernel
theorem dX7_put_27 : decode cX7_put 27 = .ok (.getfield 9, 3) := by decide +kernel
theorem dX7_put_30 : decode cX7_put 30 = .ok (.iload_n 2, 1) := by decide +kernel
theorem dX7_put_31 : decode cX7_put 31 = .ok (.iastore, 1) := by decide +kernel
theorem dX7_put_32 : decode cX7_put 32 = .ok (.aload_n 0, 1) := by decide +kernel
theorem dX7_put_33 : decode cX7_put 33 = .ok (.dup, 1) := by decide +kernel
theorem dX7_put_34 : decode cX7_put 34 = .ok (.getfield 9, 3) := by decide +kernel
theorem dX7_put_37 : decode cX7_put 37 = .ok (.iconst 1, 1) := by decide +kernel
theorem dX7_put_38 : decode cX7_put 38 = .ok (.iadd, 1) := by decide +kernel
theorem dX7_put_39 : decode cX7_put 39 = .ok (.putfield 9, 3) := by decide +kernel
theorem dX7_put_42 : decode cX7_put 42 = .ok (.return_, 1) := by decide +kernel
theorem dX7_clear_0 : decode cX7_clear 0 = .ok (.aload_n 0, 1) := by decide +kernel
theorem dX7_clear_1 : decode cX7_clear 1 = .ok (.iconst 0, 1) := by decide +kernel
theorem dX7_clear_2 : decode cX7_clear 2 = .ok (.putfield 9, 3) := by decide +kernel
theorem dX7_clear_5 : decode cX7_clear 5 = .ok (.aload_n 0, 1) := by decide +kernel
theorem dX7_clear_6 : decode cX7_clear 6 = .ok (.iload_n 1, 1) := by decide +kernel
theorem dX7_clear_7 : decode cX7_clear 7 = .ok (.putfield 28, 3) := by decide +kernel
theorem dX7_clear_10 : decode cX7_clear 10 = .ok (.return_, 1) := by decide +kernel
theorem dX7_copyFrom_0 : decode cX7_copyFrom 0 = .ok (.aload_n 0, 1) := by decide +kernel
theorem dX7_copyFrom_1 : decode cX7_copyFrom 1 = .ok (.aload_n 1, 1) := by decide +kernel
theorem dX7_copyFrom_2 : decode cX7_copyFrom 2 = .ok (.getfield 28, 3) := by decide +kernel
theorem dX7_copyFrom_5 : decode cX7_copyFrom 5 = .ok (.invokevirtual 32, 3) := by decide +kernel
theorem dX7_copyFrom_8 : decode cX7_copyFrom 8 = .ok (.iconst 0, 1) := by decide +kernel
theorem dX7_copyFrom_9 : decode cX7_copyFrom 9 = .ok (.istore_n 2, 1) := by decide +kernel
theorem dX7_copyFrom_10 : decode cX7_copyFrom 10 = .ok (.iload_n 2, 1) := by decide +kernel
theorem dX7_copyFrom_11 : decode cX7_copyFrom 11 = .ok (.aload_n 1, 1) := by decide +kernel
theorem dX7_copyFrom_12 : decode cX7_copyFrom 12 = .ok (.getfield 9, 3) := by decide +kernel
theorem dX7_copyFrom_15 : decode cX7_copyFrom 15 = .ok (.if_icmp .ge 25, 3) := by decide +kernel
theorem dX7_copyFrom_18 : decode cX7_copyFrom 18 = .ok (.aload_n 0, 1) := by decide +kernel
theorem dX7_copyFrom_19 : decode cX7_copyFrom 19 = .ok (.aload_n 1, 1) := by decide +kernel
theorem dX7_copyFrom_20 : decode cX7_copyFrom 20 = .ok (.getfield 21, 3) := by decide +kernel
theorem dX7_copyFrom_23 : decode cX7_copyFrom 23 = .ok (.iload_n 2, 1) := by decide +kernel
theorem dX7_copyFrom_24 : decode cX7_copyFrom 24 = .ok (.iaload, 1) := by decide +kernel
theorem dX7_copyFrom_25 : decode cX7_copyFrom 25 = .ok (.aload_n 1, 1) := by decide +kernel
theorem dX7_copyFrom_26 : decode cX7_copyFrom 26 = .ok (.getfield 25, 3) := by decide +kernel
theorem dX7_copyFrom_29 : decode cX7_copyFrom 29 = .ok (.iload_n 2, 1) := by decide +kernel
theorem dX7_copyFrom_30 : decode cX7_copyFrom 30 = .ok (.iaload, 1) := by decide +kernel
theorem dX7_copyFrom_31 : decode cX7_copyFrom 31 = .ok (.invokevirtual 36, 3) := by decide +kernel
theorem dX7_copyFrom_34 : decode cX7_copyFrom 34 = .ok (.iinc 2 1, 3) := by decide +kernel
theorem dX7_copyFrom_37 : decode cX7_copyFrom 37 = .ok (.goto (-27), 3) := by decide +kernel
theorem dX7_copyFrom_40 : decode cX7_copyFrom 40 = .ok (.return_, 1) := by decide +kernel
theorem dX7_copy_0 : decode cX7_copy 0 = .ok (.new 10, 3) := by decide +kernel
theorem dX7_copy_3 : decode cX7_copy 3 = .ok (.dup, 1) := by decide +kernel
theorem dX7_copy_4 : decode cX7_copy 4 = .ok (.aload_n 0, 1) := by decide +kernel
theorem dX7_copy_5 : decode cX7_copy 5 = .ok (.getfield 9, 3) := by decide +kernel
theorem dX7_copy_8 : decode cX7_copy 8 = .ok (.aload_n 0, 1) := by decide +kernel
theorem dX7_copy_9 : decode cX7_copy 9 = .ok (.getfield 28, 3) := by decide +kernel
theorem dX7_copy_12 : decode cX7_copy 12 = .ok (.invokespecial 40, 3) := by decide +kernel
theorem dX7_copy_15 : decode cX7_copy 15 = .ok (.astore_n 1, 1) := by decide +kernel
theorem dX7_copy_16 : decode cX7_copy 16 = .ok (.aload_n 1, 1) := by decide +kernel
theorem dX7_copy_17 : decode cX7_copy 17 = .ok (.aload_n 0, 1) := by decide +kernel
theorem dX7_copy_18 : decode cX7_copy 18 = .ok (.invokevirtual 43, 3) := by decide +kernel
theorem dX7_copy_21 : decode cX7_copy 21 = .ok (.aload_n 1, 1) := by decide +kernel
theorem dX7_copy_22 : decode cX7_copy 22 = .ok (.areturn, 1) := by decide +kernel
theorem dX7_cut_0 : decode cX7_cut 0 = .ok (.iload_n 1, 1) := by decide +kernel
theorem dX7_cut_1 : decode cX7_cut 1 = .ok (.iconst 0, 1) := by decide +kernel
theorem dX7_cut_2 : decode cX7_cut 2 = .ok (.invokestatic 15, 3) := by decide +kernel
theorem dX7_cut_5 : decode cX7_cut 5 = .ok (.istore_n 2, 1) := by decide +kernel
theorem dX7_cut_6 : decode cX7_cut 6 = .ok (.iload_n 2, 1) := by decide +kernel
theorem dX7_cut_7 : decode cX7_cut 7 = .ok (.aload_n 0, 1) := by decide +kernel
theorem dX7_cut_8 : decode cX7_cut 8 = .ok (.getfield 9, 3) := by decide +kernel
theorem dX7_cut_11 : decode cX7_cut 11 = .ok (.iconst 1, 1) := by decide +kernel
theorem dX7_cut_12 : decode cX7_cut 12 = .ok (.isub, 1) := by decide +kernel
theorem dX7_cut_13 : decode cX7_cut 13 = .ok (.if_icmp .ge 37, 3) := by decide +kernel
theorem dX7_cut_16 : decode cX7_cut 16 = .ok (.aload_n 0, 1) := by decide +kernel
theorem dX7_cut_17 : decode cX7_cut 17 = .ok (.getfield 21, 3) := by decide +kernel
theorem dX7_cut_20 : decode cX7_cut 20 = .ok (.iload_n 2, 1) := by decide +kernel
theorem dX7_cut_21 : decode cX7_cut 21 = .ok (.aload_n 0, 1) := by decide +kernel
theorem dX7_cut_22 : decode cX7_cut 22 = .ok (.getfield 21, 3) := by decide +kernel
theorem dX7_cut_25 : decode cX7_cut 25 = .ok (.iload_n 2, 1) := by decide +kernel
theorem dX7_cut_26 : decode cX7_cut 26 = .ok (.iconst 1, 1) := by decide +kernel
theorem dX7_cut_27 : decode cX7_cut 27 = .ok (.iadd, 1) := by decide +kernel
theorem dX7_cut_28 : decode cX7_cut 28 = .ok (.iaload, 1) := by decide +kernel
theorem dX7_cut_29 : decode cX7_cut 29 = .ok (.iastore, 1) := by decide +kernel
theorem dX7_cut_30 : decode cX7_cut 30 = .ok (.aload_n 0, 1) := by decide +kernel
theorem dX7_cut_31 : decode cX7_cut 31 = .ok (.getfield 25, 3) := by decide +kernel
theorem dX7_cut_34 : decode cX7_cut 34 = .ok (.iload_n 2, 1) := by decide +kernel
theorem dX7_cut_35 : decode cX7_cut 35 = .ok (.aload_n 0, 1) := by decide +kernel
theorem dX7_cut_36 : decode cX7_cut 36 = .ok (.getfield 25, 3) := by decide +kernel
theorem dX7_cut_39 : decode cX7_cut 39 = .ok (.iload_n 2, 1) := by decide +kernel
theorem dX7_cut_40 : decode cX7_cut 40 = .ok (.iconst 1, 1) := by decide +kernel
theorem dX7_cut_41 : decode cX7_cut 41 = .ok (.iadd, 1) := by decide +kernel
theorem dX7_cut_42 : decode cX7_cut 42 = .ok (.iaload, 1) := by decide +kernel
theorem dX7_cut_43 : decode cX7_cut 43 = .ok (.iastore, 1) := by decide +kernel
theorem dX7_cut_44 : decode cX7_cut 44 = .ok (.iinc 2 1, 3) := by decide +kernel
theorem dX7_cut_47 : decode cX7_cut 47 = .ok (.goto (-41), 3) := by decide +kernel
theorem dX7_cut_50 : decode cX7_cut 50 = .ok (.aload_n 0, 1) := by decide +kernel
theorem dX7_cut_51 : decode cX7_cut 51 = .ok (.aload_n 0, 1) := by decide +kernel
theorem dX7_cut_52 : decode cX7_cut 52 = .ok (.getfield 9, 3) := by decide +kernel
theorem dX7_cut_55 : decode cX7_cut 55 = .ok (.iconst 1, 1) := by decide +kernel
theorem dX7_cut_56 : decode cX7_cut 56 = .ok (.isub, 1) := by decide +kernel
theorem dX7_cut_57 : decode cX7_cut 57 = .ok (.iconst 0, 1) := by decide +kernel
theorem dX7_cut_58 : decode cX7_cut 58 = .ok (.invokestatic 15, 3) := by decide +kernel
theorem dX7_cut_61 : decode cX7_cut 61 = .ok (.putfield 9, 3) := by decide +kernel
theorem dX7_cut_64 : decode cX7_cut 64 = .ok (.return_, 1) := by decide +kernel
theorem dX7_edges_0 : decode cX7_edges 0 = .ok (.aload_n 0, 1) := by decide +kernel
theorem dX7_edges_1 : decode cX7_edges 1 = .ok (.getfield 9, 3) := by decide +kernel
theorem dX7_edges_4 : decode cX7_edges 4 = .ok (.iconst 2, 1) := by decide +kernel
theorem dX7_edges_5 : decode cX7_edges 5 = .ok (.if_icmp .ge 5, 3) := by decide +kernel
theorem dX7_edges_8 : decode cX7_edges 8 = .ok (.iconst 0, 1) := by decide +kernel
theorem dX7_edges_9 : decode cX7_edges 9 = .ok (.ireturn, 1) := by decide +kernel
theorem dX7_edges_10 : decode cX7_edges 10 = .ok (.aload_n 0, 1) := by decide +kernel
theorem dX7_edges_11 : decode cX7_edges 11 = .ok (.getfield 28, 3) := by decide +kernel
theorem dX7_edges_14 : decode cX7_edges 14 = .ok (.ifCond .eq 10, 3) := by decide +kernel
theorem dX7_edges_17 : decode cX7_edges 17 = .ok (.aload_n 0, 1) := by decide +kernel
theorem dX7_edges_18 : decode cX7_edges 18 = .ok (.getfield 9, 3) := by decide +kernel
theorem dX7_edges_21 : decode cX7_edges 21 = .ok (.goto 9, 3) := by decide +kernel
theorem dX7_edges_24 : decode cX7_edges 24 = .ok (.aload_n 0, 1) := by decide +kernel
theorem dX7_edges_25 : decode cX7_edges 25 = .ok (.getfield 9, 3) := by decide +kernel
theorem dX7_edges_28 : decode cX7_edges 28 = .ok (.iconst 1, 1) := by decide +kernel
theorem dX7_edges_29 : decode cX7_edges 29 = .ok (.isub, 1) := by decide +kernel
theorem dX7_edges_30 : decode cX7_edges 30 = .ok (.ireturn, 1) := by decide +kernel
theorem dX7_parts_0 : decode cX7_parts 0 = .ok (.aload_n 0, 1) := by decide +kernel
theorem dX7_parts_1 : decode cX7_parts 1 = .ok (.getfield 9, 3) := by decide +kernel
theorem dX7_parts_4 : decode cX7_parts 4 = .ok (.iconst 1, 1) := by decide +kernel
theorem dX7_parts_5 : decode cX7_parts 5 = .ok (.if_icmp .ne 7, 3) := by decide +kernel
theorem dX7_parts_8 : decode cX7_parts 8 = .ok (.iconst 1, 1) := by decide +kernel
theorem dX7_parts_9 : decode cX7_parts 9 = .ok (.goto 7, 3) := by decide +kernel
theorem dX7_parts_12 : decode cX7_parts 12 = .ok (.aload_n 0, 1) := by decide +kernel
theorem dX7_parts_13 : decode cX7_parts 13 = .ok (.invokevirtual 47, 3) := by decide +kernel
theorem dX7_parts_16 : decode cX7_parts 16 = .ok (.ireturn, 1) := by decide +kernel
theorem dX7_next_0 : decode cX7_next 0 = .ok (.iload_n 1, 1) := by decide +kernel
theorem dX7_next_1 : decode cX7_next 1 = .ok (.iconst 1, 1) := by decide +kernel
theorem dX7_next_2 : decode cX7_next 2 = .ok (.iadd, 1) := by decide +kernel
theorem dX7_next_3 : decode cX7_next 3 = .ok (.aload_n 0, 1) := by decide +kernel
theorem dX7_next_4 : decode cX7_next 4 = .ok (.getfield 9, 3) := by decide +kernel
theorem dX7_next_7 : decode cX7_next 7 = .ok (.if_icmp .ge 9, 3) := by decide +kernel
theorem dX7_next_10 : decode cX7_next 10 = .ok (.iload_n 1, 1) := by decide +kernel
theorem dX7_next_11 : decode cX7_next 11 = .ok (.iconst 1, 1) := by decide +kernel
theorem dX7_next_12 : decode cX7_next 12 = .ok (.iadd, 1) := by decide +kernel
theorem dX7_next_13 : decode cX7_next 13 = .ok (.goto 4, 3) := by decide +kernel
theorem dX7_next_16 : decode cX7_next 16 = .ok (.iconst 0, 1) := by decide +kernel
theorem dX7_next_17 : decode cX7_next 17 = .ok (.ireturn, 1) := by decide +kernel
theorem dX7_previous_0 : decode cX7_previous 0 = .ok (.iload_n 1, 1) := by decide +kernel
theorem dX7_previous_1 : decode cX7_previous 1 = .ok (.ifCond .le 9, 3) := by decide +kernel
theorem dX7_previous_4 : decode cX7_previous 4 = .ok (.iload_n 1, 1) := by decide +kernel
theorem dX7_previous_5 : decode cX7_previous 5 = .ok (.iconst 1, 1) := by decide +kernel
theorem dX7_previous_6 : decode cX7_previous 6 = .ok (.isub, 1) := by decide +kernel
theorem dX7_previous_7 : decode cX7_previous 7 = .ok (.goto 9, 3) := by decide +kernel
theorem dX7_previous_10 : decode cX7_previous 10 = .ok (.aload_n 0, 1) := by decide +kernel
theorem dX7_previous_11 : decode cX7_previous 11 = .ok (.getfield 9, 3) := by decide +kernel
theorem dX7_previous_14 : decode cX7_previous 14 = .ok (.iconst 1, 1) := by decide +kernel
theorem dX7_previous_15 : decode cX7_previous 15 = .ok (.isub, 1) := by decide +kernel
theorem dX7_previous_16 : decode cX7_previous 16 = .ok (.ireturn, 1) := by decide +kernel
theorem dX7_isEnd_0 : decode cX7_isEnd 0 = .ok (.aload_n 0, 1) := by decide +kernel
theorem dX7_isEnd_1 : decode cX7_isEnd 1 = .ok (.getfield 28, 3) := by decide +kernel
theorem dX7_isEnd_4 : decode cX7_isEnd 4 = .ok (.ifCond .ne 21, 3) := by decide +kernel
theorem dX7_isEnd_7 : decode cX7_isEnd 7 = .ok (.iload_n 1, 1) := by decide +kernel
theorem dX7_isEnd_8 : decode cX7_isEnd 8 = .ok (.ifCond .eq 13, 3) := by decide +kernel
theorem dX7_isEnd_11 : decode cX7_isEnd 11 = .ok (.iload_n 1, 1) := by decide +kernel
theorem dX7_isEnd_12 : decode cX7_isEnd 12 = .ok (.aload_n 0, 1) := by decide +kernel
theorem dX7_isEnd_13 : decode cX7_isEnd 13 = .ok (.getfield 9, 3) := by decide +kernel
theorem dX7_isEnd_16 : decode cX7_isEnd 16 = .ok (.iconst 1, 1) := by decide +kernel
theorem dX7_isEnd_17 : decode cX7_isEnd 17 = .ok (.isub, 1) := by decide +kernel
theorem dX7_isEnd_18 : decode cX7_isEnd 18 = .ok (.if_icmp .ne 7, 3) := by decide +kernel
theorem dX7_isEnd_21 : decode cX7_isEnd 21 = .ok (.iconst 1, 1) := by decide +kernel
theorem dX7_isEnd_22 : decode cX7_isEnd 22 = .ok (.goto 4, 3) := by decide +kernel
theorem dX7_isEnd_25 : decode cX7_isEnd 25 = .ok (.iconst 0, 1) := by decide +kernel
theorem dX7_isEnd_26 : decode cX7_isEnd 26 = .ok (.ireturn, 1) := by decide +kernel
theorem dX7_turn_0 : decode cX7_turn 0 = .ok (.iload_n 1, 1) := by decide +kernel
theorem dX7_turn_1 : decode cX7_turn 1 = .ok (.iconst 1, 1) := by decide +kernel
theorem dX7_turn_2 : decode cX7_turn 2 = .ok (.iadd, 1) := by decide +kernel
theorem dX7_turn_3 : decode cX7_turn 3 = .ok (.aload_n 0, 1) := by decide +kernel
theorem dX7_turn_4 : decode cX7_turn 4 = .ok (.getfield 9, 3) := by decide +kernel
theorem dX7_turn_7 : decode cX7_turn 7 = .ok (.if_icmp .ge 9, 3) := by decide +kernel
theorem dX7_turn_10 : decode cX7_turn 10 = .ok (.iload_n 1, 1) := by decide +kernel
theorem dX7_turn_11 : decode cX7_turn 11 = .ok (.iconst 1, 1) := by decide +kernel
theorem dX7_turn_12 : decode cX7_turn 12 = .ok (.iadd, 1) := by decide +kernel
theorem dX7_turn_13 : decode cX7_turn 13 = .ok (.goto 4, 3) := by decide +kernel
theorem dX7_turn_16 : decode cX7_turn 16 = .ok (.iconst 0, 1) := by decide +kernel
theorem dX7_turn_17 : decode cX7_turn 17 = .ok (.istore 4, 2) := by decide +kernel
theorem dX7_turn_19 : decode cX7_turn 19 = .ok (.aload_n 0, 1) := by decide +kernel
theorem dX7_turn_20 : decode cX7_turn 20 = .ok (.getfield 21, 3) := by decide +kernel
theorem dX7_turn_23 : decode cX7_turn 23 = .ok (.iload 4, 2) := by decide +kernel
theorem dX7_turn_25 : decode cX7_turn 25 = .ok (.iaload, 1) := by decide +kernel
theorem dX7_turn_26 : decode cX7_turn 26 = .ok (.aload_n 0, 1) := by decide +kernel
theorem dX7_turn_27 : decode cX7_turn 27 = .ok (.getfield 21, 3) := by decide +kernel
theorem dX7_turn_30 : decode cX7_turn 30 = .ok (.iload_n 1, 1) := by decide +kernel
theorem dX7_turn_31 : decode cX7_turn 31 = .ok (.iaload, 1) := by decide +kernel
theorem dX7_turn_32 : decode cX7_turn 32 = .ok (.isub, 1) := by decide +kernel
theorem dX7_turn_33 : decode cX7_turn 33 = .ok (.iload_n 3, 1) := by decide +kernel
theorem dX7_turn_34 : decode cX7_turn 34 = .ok (.aload_n 0, 1) := by decide +kernel
theorem dX7_turn_35 : decode cX7_turn 35 = .ok (.getfield 25, 3) := by decide +kernel
theorem dX7_turn_38 : decode cX7_turn 38 = .ok (.iload_n 1, 1) := by decide +kernel
theorem dX7_turn_39 : decode cX7_turn 39 = .ok (.iaload, 1) := by decide +kernel
theorem dX7_turn_40 : decode cX7_turn 40 = .ok (.isub, 1) := by decide +kernel
theorem dX7_turn_41 : decode cX7_turn 41 = .ok (.imul, 1) := by decide +kernel
theorem dX7_turn_42 : decode cX7_turn 42 = .ok (.aload_n 0, 1) := by decide +kernel
theorem dX7_turn_43 : decode cX7_turn 43 = .ok (.getfield 25, 3) := by decide +kernel
theorem dX7_turn_46 : decode cX7_turn 46 = .ok (.iload 4, 2) := by decide +kernel
theorem dX7_turn_48 : decode cX7_turn 48 = .ok (.iaload, 1) := by decide +kernel
theorem dX7_turn_49 : decode cX7_turn 49 = .ok (.aload_n 0, 1) := by decide +kernel
theorem dX7_turn_50 : decode cX7_turn 50 = .ok (.getfield 25, 3) := by decide +kernel
theorem dX7_turn_53 : decode cX7_turn 53 = .ok (.iload_n 1, 1) := by decide +kernel
theorem dX7_turn_54 : decode cX7_turn 54 = .ok (.iaload, 1) := by decide +kernel
theorem dX7_turn_55 : decode cX7_turn 55 = .ok (.isub, 1) := by decide +kernel
theorem dX7_turn_56 : decode cX7_turn 56 = .ok (.iload_n 2, 1) := by decide +kernel
theorem dX7_turn_57 : decode cX7_turn 57 = .ok (.aload_n 0, 1) := by decide +kernel
theorem dX7_turn_58 : decode cX7_turn 58 = .ok (.getfield 21, 3) := by decide +kernel
theorem dX7_turn_61 : decode cX7_turn 61 = .ok (.iload_n 1, 1) := by decide +kernel
theorem dX7_turn_62 : decode cX7_turn 62 = .ok (.iaload, 1) := by decide +kernel
theorem dX7_turn_63 : decode cX7_turn 63 = .ok (.isub, 1) := by decide +kernel
theorem dX7_turn_64 : decode cX7_turn 64 = .ok (.imul, 1) := by decide +kernel
theorem dX7_turn_65 : decode cX7_turn 65 = .ok (.isub, 1) := by decide +kernel
theorem dX7_turn_66 : decode cX7_turn 66 = .ok (.ireturn, 1) := by decide +kernel
theorem dX7_isOn_0 : decode cX7_isOn 0 = .ok (.iload_n 1, 1) := by decide +kernel
theorem dX7_isOn_1 : decode cX7_isOn 1 = .ok (.iconst 1, 1) := by decide +kernel
theorem dX7_isOn_2 : decode cX7_isOn 2 = .ok (.iadd, 1) := by decide +kernel
theorem dX7_isOn_3 : decode cX7_isOn 3 = .ok (.aload_n 0, 1) := by decide +kernel
theorem dX7_isOn_4 : decode cX7_isOn 4 = .ok (.getfield 9, 3) := by decide +kernel
theorem dX7_isOn_7 : decode cX7_isOn 7 = .ok (.if_icmp .ge 9, 3) := by decide +kernel
theorem dX7_isOn_10 : decode cX7_isOn 10 = .ok (.iload_n 1, 1) := by decide +kernel
theorem dX7_isOn_11 : decode cX7_isOn 11 = .ok (.iconst 1, 1) := by decide +kernel
theorem dX7_isOn_12 : decode cX7_isOn 12 = .ok (.iadd, 1) := by decide +kernel
theorem dX7_isOn_13 : decode cX7_isOn 13 = .ok (.goto 4, 3) := by decide +kernel
theorem dX7_isOn_16 : decode cX7_isOn 16 = .ok (.iconst 0, 1) := by decide +kernel
theorem dX7_isOn_17 : decode cX7_isOn 17 = .ok (.istore 4, 2) := by decide +kernel
theorem dX7_isOn_19 : decode cX7_isOn 19 = .ok (.iload_n 2, 1) := by decide +kernel
theorem dX7_isOn_20 : decode cX7_isOn 20 = .ok (.aload_n 0, 1) := by decide +kernel
theorem dX7_isOn_21 : decode cX7_isOn 21 = .ok (.getfield 21, 3) := by decide +kernel
theorem dX7_isOn_24 : decode cX7_isOn 24 = .ok (.iload_n 1, 1) := by decide +kernel
theorem dX7_isOn_25 : decode cX7_isOn 25 = .ok (.iaload, 1) := by decide +kernel
theorem dX7_isOn_26 : decode cX7_isOn 26 = .ok (.if_icmp .ge 14, 3) := by decide +kernel
theorem dX7_isOn_29 : decode cX7_isOn 29 = .ok (.iload_n 2, 1) := by decide +kernel
theorem dX7_isOn_30 : decode cX7_isOn 30 = .ok (.aload_n 0, 1) := by decide +kernel
theorem dX7_isOn_31 : decode cX7_isOn 31 = .ok (.getfield 21, 3) := by decide +kernel
theorem dX7_isOn_34 : decode cX7_isOn 34 = .ok (.iload 4, 2) := by decide +kernel
theorem dX7_isOn_36 : decode cX7_isOn 36 = .ok (.iaload, 1) := by decide +kernel
theorem dX7_isOn_37 : decode cX7_isOn 37 = .ok (.if_icmp .lt 24, 3) := by decide +kernel
theorem dX7_isOn_40 : decode cX7_isOn 40 = .ok (.iload_n 2, 1) := by decide +kernel
theorem dX7_isOn_41 : decode cX7_isOn 41 = .ok (.aload_n 0, 1) := by decide +kernel
theorem dX7_isOn_42 : decode cX7_isOn 42 = .ok (.getfield 21, 3) := by decide +kernel
theorem dX7_isOn_45 : decode cX7_isOn 45 = .ok (.iload_n 1, 1) := by decide +kernel
theorem dX7_isOn_46 : decode cX7_isOn 46 = .ok (.iaload, 1) := by decide +kernel
theorem dX7_isOn_47 : decode cX7_isOn 47 = .ok (.if_icmp .le 16, 3) := by decide +kernel
theorem dX7_isOn_50 : decode cX7_isOn 50 = .ok (.iload_n 2, 1) := by decide +kernel
theorem dX7_isOn_51 : decode cX7_isOn 51 = .ok (.aload_n 0, 1) := by decide +kernel
theorem dX7_isOn_52 : decode cX7_isOn 52 = .ok (.getfield 21, 3) := by decide +kernel
theorem dX7_isOn_55 : decode cX7_isOn 55 = .ok (.iload 4, 2) := by decide +kernel
theorem dX7_isOn_57 : decode cX7_isOn 57 = .ok (.iaload, 1) := by decide +kernel
theorem dX7_isOn_58 : decode cX7_isOn 58 = .ok (.if_icmp .le 5, 3) := by decide +kernel
theorem dX7_isOn_61 : decode cX7_isOn 61 = .ok (.iconst 0, 1) := by decide +kernel
theorem dX7_isOn_62 : decode cX7_isOn 62 = .ok (.ireturn, 1) := by decide +kernel
theorem dX7_isOn_63 : decode cX7_isOn 63 = .ok (.iload_n 3, 1) := by decide +kernel
theorem dX7_isOn_64 : decode cX7_isOn 64 = .ok (.aload_n 0, 1) := by decide +kernel
theorem dX7_isOn_65 : decode cX7_isOn 65 = .ok (.getfield 25, 3) := by decide +kernel
theorem dX7_isOn_68 : decode cX7_isOn 68 = .ok (.iload_n 1, 1) := by decide +kernel
theorem dX7_isOn_69 : decode cX7_isOn 69 = .ok (.iaload, 1) := by decide +kernel
theorem dX7_isOn_70 : decode cX7_isOn 70 = .ok (.if_icmp .ge 14, 3) := by decide +kernel
theorem dX7_isOn_73 : decode cX7_isOn 73 = .ok (.iload_n 3, 1) := by decide +kernel
theorem dX7_isOn_74 : decode cX7_isOn 74 = .ok (.aload_n 0, 1) := by decide +kernel
theorem dX7_isOn_75 : decode cX7_isOn 75 = .ok (.getfield 25, 3) := by decide +kernel
theorem dX7_isOn_78 : decode cX7_isOn 78 = .ok (.iload 4, 2) := by decide +kernel
theorem dX7_isOn_80 : decode cX7_isOn 80 = .ok (.iaload, 1) := by decide +kernel
theorem dX7_isOn_81 : decode cX7_isOn 81 = .ok (.if_icmp .lt 24, 3) := by decide +kernel
theorem dX7_isOn_84 : decode cX7_isOn 84 = .ok (.iload_n 3, 1) := by decide +kernel
theorem dX7_isOn_85 : decode cX7_isOn 85 = .ok (.aload_n 0, 1) := by decide +kernel
theorem dX7_isOn_86 : decode cX7_isOn 86 = .ok (.getfield 25, 3) := by decide +kernel
theorem dX7_isOn_89 : decode cX7_isOn 89 = .ok (.iload_n 1, 1) := by decide +kernel
theorem dX7_isOn_90 : decode cX7_isOn 90 = .ok (.iaload, 1) := by decide +kernel
theorem dX7_isOn_91 : decode cX7_isOn 91 = .ok (.if_icmp .le 16, 3) := by decide +kernel
theorem dX7_isOn_94 : decode cX7_isOn 94 = .ok (.iload_n 3, 1) := by decide +kernel
theorem dX7_isOn_95 : decode cX7_isOn 95 = .ok (.aload_n 0, 1) := by decide +kernel
theorem dX7_isOn_96 : decode cX7_isOn 96 = .ok (.getfield 25, 3) := by decide +kernel
theorem dX7_isOn_99 : decode cX7_isOn 99 = .ok (.iload 4, 2) := by decide +kernel
theorem dX7_isOn_101 : decode cX7_isOn 101 = .ok (.iaload, 1) := by decide +kernel
theorem dX7_isOn_102 : decode cX7_isOn 102 = .ok (.if_icmp .le 5, 3) := by decide +kernel
theorem dX7_isOn_105 : decode cX7_isOn 105 = .ok (.iconst 0, 1) := by decide +kernel
theorem dX7_isOn_106 : decode cX7_isOn 106 = .ok (.ireturn, 1) := by decide +kernel
theorem dX7_isOn_107 : decode cX7_isOn 107 = .ok (.aload_n 0, 1) := by decide +kernel
theorem dX7_isOn_108 : decode cX7_isOn 108 = .ok (.iload_n 1, 1) := by decide +kernel
theorem dX7_isOn_109 : decode cX7_isOn 109 = .ok (.iload_n 2, 1) := by decide +kernel
theorem dX7_isOn_110 : decode cX7_isOn 110 = .ok (.iload_n 3, 1) := by decide +kernel
theorem dX7_isOn_111 : decode cX7_isOn 111 = .ok (.invokevirtual 51, 3) := by decide +kernel
theorem dX7_isOn_114 : decode cX7_isOn 114 = .ok (.ifCond .ne 7, 3) := by decide +kernel
theorem dX7_isOn_117 : decode cX7_isOn 117 = .ok (.iconst 1, 1) := by decide +kernel
theorem dX7_isOn_118 : decode cX7_isOn 118 = .ok (.goto 4, 3) := by decide +kernel
theorem dX7_isOn_121 : decode cX7_isOn 121 = .ok (.iconst 0, 1) := by decide +kernel
theorem dX7_isOn_122 : decode cX7_isOn 122 = .ok (.ireturn, 1) := by decide +kernel
theorem dX7_isOnSet_0 : decode cX7_isOnSet 0 = .ok (.iconst 0, 1) := by decide +kernel
theorem dX7_isOnSet_1 : decode cX7_isOnSet 1 = .ok (.istore_n 3, 1) := by decide +kernel
theorem dX7_isOnSet_2 : decode cX7_isOnSet 2 = .ok (.iload_n 3, 1) := by decide +kernel
theorem dX7_isOnSet_3 : decode cX7_isOnSet 3 = .ok (.aload_n 0, 1) := by decide +kernel
theorem dX7_isOnSet_4 : decode cX7_isOnSet 4 = .ok (.invokevirtual 55, 3) := by decide +kernel
theorem dX7_isOnSet_7 : decode cX7_isOnSet 7 = .ok (.if_icmp .ge 21, 3) := by decide +kernel
theorem dX7_isOnSet_10 : decode cX7_isOnSet 10 = .ok (.aload_n 0, 1) := by decide +kernel
theorem dX7_isOnSet_11 : decode cX7_isOnSet 11 = .ok (.iload_n 3, 1) := by decide +kernel
theorem dX7_isOnSet_12 : decode cX7_isOnSet 12 = .ok (.iload_n 1, 1) := by decide +kernel
theorem dX7_isOnSet_13 : decode cX7_isOnSet 13 = .ok (.iload_n 2, 1) := by decide +kernel
theorem dX7_isOnSet_14 : decode cX7_isOnSet 14 = .ok (.invokevirtual 58, 3) := by decide +kernel
theorem dX7_isOnSet_17 : decode cX7_isOnSet 17 = .ok (.ifCond .eq 5, 3) := by decide +kernel
theorem dX7_isOnSet_20 : decode cX7_isOnSet 20 = .ok (.iconst 1, 1) := by decide +kernel
theorem dX7_isOnSet_21 : decode cX7_isOnSet 21 = .ok (.ireturn, 1) := by decide +kernel
theorem dX7_isOnSet_22 : decode cX7_isOnSet 22 = .ok (.iinc 3 1, 3) := by decide +kernel
theorem dX7_isOnSet_25 : decode cX7_isOnSet 25 = .ok (.goto (-23), 3) := by decide +kernel
theorem dX7_isOnSet_28 : decode cX7_isOnSet 28 = .ok (.iconst 0, 1) := by decide +kernel
theorem dX7_isOnSet_29 : decode cX7_isOnSet 29 = .ok (.ireturn, 1) := by decide +kernel
theorem dX7_isCorner_0 : decode cX7_isCorner 0 = .ok (.aload_n 0, 1) := by decide +kernel
theorem dX7_isCorner_1 : decode cX7_isCorner 1 = .ok (.getfield 21, 3) := by decide +kernel
theorem dX7_isCorner_4 : decode cX7_isCorner 4 = .ok (.iload_n 1, 1) := by decide +kernel
theorem dX7_isCorner_5 : decode cX7_isCorner 5 = .ok (.iaload, 1) := by decide +kernel
theorem dX7_isCorner_6 : decode cX7_isCorner 6 = .ok (.iload_n 2, 1) := by decide +kernel
theorem dX7_isCorner_7 : decode cX7_isCorner 7 = .ok (.if_icmp .ne 17, 3) := by decide +kernel
theorem dX7_isCorner_10 : decode cX7_isCorner 10 = .ok (.aload_n 0, 1) := by decide +kernel
theorem dX7_isCorner_11 : decode cX7_isCorner 11 = .ok (.getfield 25, 3) := by decide +kernel
theorem dX7_isCorner_14 : decode cX7_isCorner 14 = .ok (.iload_n 1, 1) := by decide +kernel
theorem dX7_isCorner_15 : decode cX7_isCorner 15 = .ok (.iaload, 1) := by decide +kernel
theorem dX7_isCorner_16 : decode cX7_isCorner 16 = .ok (.iload_n 3, 1) := by decide +kernel
theorem dX7_isCorner_17 : decode cX7_isCorner 17 = .ok (.if_icmp .ne 7, 3) := by decide +kernel
theorem dX7_isCorner_20 : decode cX7_isCorner 20 = .ok (.iconst 1, 1) := by decide +kernel
theorem dX7_isCorner_21 : decode cX7_isCorner 21 = .ok (.goto 4, 3) := by decide +kernel
theorem dX7_isCorner_24 : decode cX7_isCorner 24 = .ok (.iconst 0, 1) := by decide +kernel
theorem dX7_isCorner_25 : decode cX7_isCorner 25 = .ok (.ireturn, 1) := by decide +kernel
theorem dX7_isAlike_0 : decode cX7_isAlike 0 = .ok (.aload_n 1, 1) := by decide +kernel
theorem dX7_isAlike_1 : decode cX7_isAlike 1 = .ok (.ifnull 14, 3) := by decide +kernel
theorem dX7_isAlike_4 : decode cX7_isAlike 4 = .ok (.aload_n 1, 1) := by decide +kernel
theorem dX7_isAlike_5 : decode cX7_isAlike 5 = .ok (.getfield 9, 3) := by decide +kernel
theorem dX7_isAlike_8 : decode cX7_isAlike 8 = .ok (.aload_n 0, 1) := by decide +kernel
theorem dX7_isAlike_9 : decode cX7_isAlike 9 = .ok (.getfield 9, 3) := by decide +kernel
theorem dX7_isAlike_12 : decode cX7_isAlike 12 = .ok (.if_icmp .eq 5, 3) := by decide +kernel
theorem dX7_isAlike_15 : decode cX7_isAlike 15 = .ok (.iconst 0, 1) := by decide +kernel
theorem dX7_isAlike_16 : decode cX7_isAlike 16 = .ok (.ireturn, 1) := by decide +kernel
theorem dX7_isAlike_17 : decode cX7_isAlike 17 = .ok (.iconst 0, 1) := by decide +kernel
theorem dX7_isAlike_18 : decode cX7_isAlike 18 = .ok (.istore_n 2, 1) := by decide +kernel
theorem dX7_isAlike_19 : decode cX7_isAlike 19 = .ok (.iload_n 2, 1) := by decide +kernel
theorem dX7_isAlike_20 : decode cX7_isAlike 20 = .ok (.aload_n 0, 1) := by decide +kernel
theorem dX7_isAlike_21 : decode cX7_isAlike 21 = .ok (.getfield 9, 3) := by decide +kernel
theorem dX7_isAlike_24 : decode cX7_isAlike 24 = .ok (.if_icmp .ge 31, 3) := by decide +kernel
theorem dX7_isAlike_27 : decode cX7_isAlike 27 = .ok (.aload_n 0, 1) := by decide +kernel
theorem dX7_isAlike_28 : decode cX7_isAlike 28 = .ok (.iload_n 2, 1) := by decide +kernel
theorem dX7_isAlike_29 : decode cX7_isAlike 29 = .ok (.aload_n 1, 1) := by decide +kernel
theorem dX7_isAlike_30 : decode cX7_isAlike 30 = .ok (.getfield 21, 3) := by decide +kernel
theorem dX7_isAlike_33 : decode cX7_isAlike 33 = .ok (.iload_n 2, 1) := by decide +kernel
theorem dX7_isAlike_34 : decode cX7_isAlike 34 = .ok (.iaload, 1) := by decide +kernel
theorem dX7_isAlike_35 : decode cX7_isAlike 35 = .ok (.aload_n 1, 1) := by decide +kernel
theorem dX7_isAlike_36 : decode cX7_isAlike 36 = .ok (.getfield 25, 3) := by decide +kernel
theorem dX7_isAlike_39 : decode cX7_isAlike 39 = .ok (.iload_n 2, 1) := by decide +kernel
theorem dX7_isAlike_40 : decode cX7_isAlike 40 = .ok (.iaload, 1) := by decide +kernel
theorem dX7_isAlike_41 : decode cX7_isAlike 41 = .ok (.invokevirtual 62, 3) := by decide +kernel
theorem dX7_isAlike_44 : decode cX7_isAlike 44 = .ok (.ifCond .ne 5, 3) := by decide +kernel
theorem dX7_isAlike_47 : decode cX7_isAlike 47 = .ok (.iconst 0, 1) := by decide +kernel
theorem dX7_isAlike_48 : decode cX7_isAlike 48 = .ok (.ireturn, 1) := by decide +kernel
theorem dX7_isAlike_49 : decode cX7_isAlike 49 = .ok (.iinc 2 1, 3) := by decide +kernel
theorem dX7_isAlike_52 : decode cX7_isAlike 52 = .ok (.goto (-33), 3) := by decide +kernel
theorem dX7_isAlike_55 : decode cX7_isAlike 55 = .ok (.iconst 1, 1) := by decide +kernel
theorem dX7_isAlike_56 : decode cX7_isAlike 56 = .ok (.ireturn, 1) := by decide +kernel
theorem dX7_touches_0 : decode cX7_touches 0 = .ok (.aload_n 0, 1) := by decide +kernel
theorem dX7_touches_1 : decode cX7_touches 1 = .ok (.invokevirtual 55, 3) := by decide +kernel
theorem dX7_touches_4 : decode cX7_touches 4 = .ok (.istore_n 2, 1) := by decide +kernel
theorem dX7_touches_5 : decode cX7_touches 5 = .ok (.aload_n 1, 1) := by decide +kernel
theorem dX7_touches_6 : decode cX7_touches 6 = .ok (.invokevirtual 55, 3) := by decide +kernel
theorem dX7_touches_9 : decode cX7_touches 9 = .ok (.istore_n 3, 1) := by decide +kernel
theorem dX7_touches_10 : decode cX7_touches 10 = .ok (.iconst 0, 1) := by decide +kernel
theorem dX7_touches_11 : decode cX7_touches 11 = .ok (.istore 4, 2) := by decide +kernel
theorem dX7_touches_13 : decode cX7_touches 13 = .ok (.iload 4, 2) := by decide +kernel
theorem dX7_touches_15 : decode cX7_touches 15 = .ok (.iload_n 2, 1) := by decide +kernel
theorem dX7_touches_16 : decode cX7_touches 16 = .ok (.if_icmp .ge 38, 3) := by decide +kernel
theorem dX7_touches_19 : decode cX7_touches 19 = .ok (.iconst 0, 1) := by decide +kernel
theorem dX7_touches_20 : decode cX7_touches 20 = .ok (.istore 5, 2) := by decide +kernel
theorem dX7_touches_22 : decode cX7_touches 22 = .ok (.iload 5, 2) := by decide +kernel
theorem dX7_touches_24 : decode cX7_touches 24 = .ok (.iload_n 3, 1) := by decide +kernel
theorem dX7_touches_25 : decode cX7_touches 25 = .ok (.if_icmp .ge 23, 3) := by decide +kernel
theorem dX7_touches_28 : decode cX7_touches 28 = .ok (.aload_n 0, 1) := by decide +kernel
theorem dX7_touches_29 : decode cX7_touches 29 = .ok (.iload 4, 2) := by decide +kernel
theorem dX7_touches_31 : decode cX7_touches 31 = .ok (.aload_n 1, 1) := by decide +kernel
theorem dX7_touches_32 : decode cX7_touches 32 = .ok (.iload 5, 2) := by decide +kernel
theorem dX7_touches_34 : decode cX7_touches 34 = .ok (.invokevirtual 65, 3) := by decide +kernel
theorem dX7_touches_37 : decode cX7_touches 37 = .ok (.ifCond .eq 5, 3) := by decide +kernel
theorem dX7_touches_40 : decode cX7_touches 40 = .ok (.iconst 1, 1) := by decide +kernel
theorem dX7_touches_41 : decode cX7_touches 41 = .ok (.ireturn, 1) := by decide +kernel
theorem dX7_touches_42 : decode cX7_touches 42 = .ok (.iinc 5 1, 3) := by decide +kernel
theorem dX7_touches_45 : decode cX7_touches 45 = .ok (.goto (-23), 3) := by decide +kernel
theorem dX7_touches_48 : decode cX7_touches 48 = .ok (.iinc 4 1, 3) := by decide +kernel
theorem dX7_touches_51 : decode cX7_touches 51 = .ok (.goto (-38), 3) := by decide +kernel
theorem dX7_touches_54 : decode cX7_touches 54 = .ok (.iconst 0, 1) := by decide +kernel
theorem dX7_touches_55 : decode cX7_touches 55 = .ok (.ireturn, 1) := by decide +kernel
theorem dX7_partsMeet_0 : decode cX7_partsMeet 0 = .ok (.iload_n 1, 1) := by decide +kernel
theorem dX7_partsMeet_1 : decode cX7_partsMeet 1 = .ok (.iconst 1, 1) := by decide +kernel
theorem dX7_partsMeet_2 : decode cX7_partsMeet 2 = .ok (.iadd, 1) := by decide +kernel
theorem dX7_partsMeet_3 : decode cX7_partsMeet 3 = .ok (.aload_n 0, 1) := by decide +kernel
theorem dX7_partsMeet_4 : decode cX7_partsMeet 4 = .ok (.getfield 9, 3) := by decide +kernel
theorem dX7_partsMeet_7 : decode cX7_partsMeet 7 = .ok (.if_icmp .ge 9, 3) := by decide +kernel
theorem dX7_partsMeet_10 : decode cX7_partsMeet 10 = .ok (.iload_n 1, 1) := by decide +kernel
theorem dX7_partsMeet_11 : decode cX7_partsMeet 11 = .ok (.iconst 1, 1) := by decide +kernel
theorem dX7_partsMeet_12 : decode cX7_partsMeet 12 = .ok (.iadd, 1) := by decide +kernel
theorem dX7_partsMeet_13 : decode cX7_partsMeet 13 = .ok (.goto 4, 3) := by decide +kernel
theorem dX7_partsMeet_16 : decode cX7_partsMeet 16 = .ok (.iconst 0, 1) := by decide +kernel
theorem dX7_partsMeet_17 : decode cX7_partsMeet 17 = .ok (.istore 4, 2) := by decide +kernel
theorem dX7_partsMeet_19 : decode cX7_partsMeet 19 = .ok (.iload_n 3, 1) := by decide +kernel
theorem dX7_partsMeet_20 : decode cX7_partsMeet 20 = .ok (.iconst 1, 1) := by decide +kernel
theorem dX7_partsMeet_21 : decode cX7_partsMeet 21 = .ok (.iadd, 1) := by decide +kernel
theorem dX7_partsMeet_22 : decode cX7_partsMeet 22 = .ok (.aload_n 2, 1) := by decide +kernel
theorem dX7_partsMeet_23 : decode cX7_partsMeet 23 = .ok (.getfield 9, 3) := by decide +kernel
theorem dX7_partsMeet_26 : decode cX7_partsMeet 26 = .ok (.if_icmp .ge 9, 3) := by decide +kernel
theorem dX7_partsMeet_29 : decode cX7_partsMeet 29 = .ok (.iload_n 3, 1) := by decide +kernel
theorem dX7_partsMeet_30 : decode cX7_partsMeet 30 = .ok (.iconst 1, 1) := by decide +kernel
theorem dX7_partsMeet_31 : decode cX7_partsMeet 31 = .ok (.iadd, 1) := by decide +kernel
theorem dX7_partsMeet_32 : decode cX7_partsMeet 32 = .ok (.goto 4, 3) := by decide +kernel
theorem dX7_partsMeet_35 : decode cX7_partsMeet 35 = .ok (.iconst 0, 1) := by decide +kernel
theorem dX7_partsMeet_36 : decode cX7_partsMeet 36 = .ok (.istore 5, 2) := by decide +kernel
theorem dX7_partsMeet_38 : decode cX7_partsMeet 38 = .ok (.aload_n 0, 1) := by decide +kernel
theorem dX7_partsMeet_39 : decode cX7_partsMeet 39 = .ok (.getfield 21, 3) := by decide +kernel
theorem dX7_partsMeet_42 : decode cX7_partsMeet 42 = .ok (.iload_n 1, 1) := by decide +kernel
theorem dX7_partsMeet_43 : decode cX7_partsMeet 43 = .ok (.iaload, 1) := by decide +kernel
theorem dX7_partsMeet_44 : decode cX7_partsMeet 44 = .ok (.istore 6, 2) := by decide +kernel
theorem dX7_partsMeet_46 : decode cX7_partsMeet 46 = .ok (.aload_n 0, 1) := by decide +kernel
theorem dX7_partsMeet_47 : decode cX7_partsMeet 47 = .ok (.getfield 25, 3) := by decide +kernel
theorem dX7_partsMeet_50 : decode cX7_partsMeet 50 = .ok (.iload_n 1, 1) := by decide +kernel
theorem dX7_partsMeet_51 : decode cX7_partsMeet 51 = .ok (.iaload, 1) := by decide +kernel
theorem dX7_partsMeet_52 : decode cX7_partsMeet 52 = .ok (.istore 7, 2) := by decide +kernel
theorem dX7_partsMeet_54 : decode cX7_partsMeet 54 = .ok (.aload_n 0, 1) := by decide +kernel
theorem dX7_partsMeet_55 : decode cX7_partsMeet 55 = .ok (.getfield 21, 3) := by decide +kernel
theorem dX7_partsMeet_58 : decode cX7_partsMeet 58 = .ok (.iload 4, 2) := by decide +kernel
theorem dX7_partsMeet_60 : decode cX7_partsMeet 60 = .ok (.iaload, 1) := by decide +kernel
theorem dX7_partsMeet_61 : decode cX7_partsMeet 61 = .ok (.istore 8, 2) := by decide +kernel
theorem dX7_partsMeet_63 : decode cX7_partsMeet 63 = .ok (.aload_n 0, 1) := by decide +kernel
theorem dX7_partsMeet_64 : decode cX7_partsMeet 64 = .ok (.getfield 25, 3) := by decide +kernel
theorem dX7_partsMeet_67 : decode cX7_partsMeet 67 = .ok (.iload 4, 2) := by decide +kernel
theorem dX7_partsMeet_69 : decode cX7_partsMeet 69 = .ok (.iaload, 1) := by decide +kernel
theorem dX7_partsMeet_70 : decode cX7_partsMeet 70 = .ok (.istore 9, 2) := by decide +kernel
theorem dX7_partsMeet_72 : decode cX7_partsMeet 72 = .ok (.aload_n 2, 1) := by decide +kernel
theorem dX7_partsMeet_73 : decode cX7_partsMeet 73 = .ok (.getfield 21, 3) := by decide +kernel
theorem dX7_partsMeet_76 : decode cX7_partsMeet 76 = .ok (.iload_n 3, 1) := by decide +kernel
theorem dX7_partsMeet_77 : decode cX7_partsMeet 77 = .ok (.iaload, 1) := by decide +kernel
theorem dX7_partsMeet_78 : decode cX7_partsMeet 78 = .ok (.istore 10, 2) := by decide +kernel
theorem dX7_partsMeet_80 : decode cX7_partsMeet 80 = .ok (.aload_n 2, 1) := by decide +kernel
theorem dX7_partsMeet_81 : decode cX7_partsMeet 81 = .ok (.getfield 25, 3) := by decide +kernel
theorem dX7_partsMeet_84 : decode cX7_partsMeet 84 = .ok (.iload_n 3, 1) := by decide +kernel
theorem dX7_partsMeet_85 : decode cX7_partsMeet 85 = .ok (.iaload, 1) := by decide +kernel
theorem dX7_partsMeet_86 : decode cX7_partsMeet 86 = .ok (.istore 11, 2) := by decide +kernel
theorem dX7_partsMeet_88 : decode cX7_partsMeet 88 = .ok (.aload_n 2, 1) := by decide +kernel
theorem dX7_partsMeet_89 : decode cX7_partsMeet 89 = .ok (.getfield 21, 3) := by decide +kernel
theorem dX7_partsMeet_92 : decode cX7_partsMeet 92 = .ok (.iload 5, 2) := by decide +kernel
theorem dX7_partsMeet_94 : decode cX7_partsMeet 94 = .ok (.iaload, 1) := by decide +kernel
theorem dX7_partsMeet_95 : decode cX7_partsMeet 95 = .ok (.istore 12, 2) := by decide +kernel
theorem dX7_partsMeet_97 : decode cX7_partsMeet 97 = .ok (.aload_n 2, 1) := by decide +kernel
theorem dX7_partsMeet_98 : decode cX7_partsMeet 98 = .ok (.getfield 25, 3) := by decide +kernel
theorem dX7_partsMeet_101 : decode cX7_partsMeet 101 = .ok (.iload 5, 2) := by decide +kernel
theorem dX7_partsMeet_103 : decode cX7_partsMeet 103 = .ok (.iaload, 1) := by decide +kernel
theorem dX7_partsMeet_104 : decode cX7_partsMeet 104 = .ok (.istore 13, 2) := by decide +kernel
theorem dX7_partsMeet_106 : decode cX7_partsMeet 106 = .ok (.iload 6, 2) := by decide +kernel
theorem dX7_partsMeet_108 : decode cX7_partsMeet 108 = .ok (.iload 10, 2) := by decide +kernel
theorem dX7_partsMeet_110 : decode cX7_partsMeet 110 = .ok (.if_icmp .ge 24, 3) := by decide +kernel
theorem dX7_partsMeet_113 : decode cX7_partsMeet 113 = .ok (.iload 8, 2) := by decide +kernel
theorem dX7_partsMeet_115 : decode cX7_partsMeet 115 = .ok (.iload 10, 2) := by decide +kernel
theorem dX7_partsMeet_117 : decode cX7_partsMeet 117 = .ok (.if_icmp .ge 17, 3) := by decide +kernel
theorem dX7_partsMeet_120 : decode cX7_partsMeet 120 = .ok (.iload 6, 2) := by decide +kernel
theorem dX7_partsMeet_122 : decode cX7_partsMeet 122 = .ok (.iload 12, 2) := by decide +kernel
theorem dX7_partsMeet_124 : decode cX7_partsMeet 124 = .ok (.if_icmp .ge 10, 3) := by decide +kernel
theorem dX7_partsMeet_127 : decode cX7_partsMeet 127 = .ok (.iload 8, 2) := by decide +kernel
theorem dX7_partsMeet_129 : decode cX7_partsMeet 129 = .ok (.iload 12, 2) := by decide +kernel
theorem dX7_partsMeet_131 : decode cX7_partsMeet 131 = .ok (.if_icmp .lt 31, 3) := by decide +kernel
theorem dX7_partsMeet_134 : decode cX7_partsMeet 134 = .ok (.iload 6, 2) := by decide +kernel
theorem dX7_partsMeet_136 : decode cX7_partsMeet 136 = .ok (.iload 10, 2) := by decide +kernel
theorem dX7_partsMeet_138 : decode cX7_partsMeet 138 = .ok (.if_icmp .le 26, 3) := by decide +kernel
theorem dX7_partsMeet_141 : decode cX7_partsMeet 141 = .ok (.iload 8, 2) := by decide +kernel
theorem dX7_partsMeet_143 : decode cX7_partsMeet 143 = .ok (.iload 10, 2) := by decide +kernel
theorem dX7_partsMeet_145 : decode cX7_partsMeet 145 = .ok (.if_icmp .le 19, 3) := by decide +kernel
theorem dX7_partsMeet_148 : decode cX7_partsMeet 148 = .ok (.iload 6, 2) := by decide +kernel
theorem dX7_partsMeet_150 : decode cX7_partsMeet 150 = .ok (.iload 12, 2) := by decide +kernel
theorem dX7_partsMeet_152 : decode cX7_partsMeet 152 = .ok (.if_icmp .le 12, 3) := by decide +kernel
theorem dX7_partsMeet_155 : decode cX7_partsMeet 155 = .ok (.iload 8, 2) := by decide +kernel
theorem dX7_partsMeet_157 : decode cX7_partsMeet 157 = .ok (.iload 12, 2) := by decide +kernel
theorem dX7_partsMeet_159 : decode cX7_partsMeet 159 = .ok (.if_icmp .le 5, 3) := by decide +kernel
theorem dX7_partsMeet_162 : decode cX7_partsMeet 162 = .ok (.iconst 0, 1) := by decide +kernel
theorem dX7_partsMeet_163 : decode cX7_partsMeet 163 = .ok (.ireturn, 1) := by decide +kernel
theorem dX7_partsMeet_164 : decode cX7_partsMeet 164 = .ok (.iload 7, 2) := by decide +kernel
theorem dX7_partsMeet_166 : decode cX7_partsMeet 166 = .ok (.iload 11, 2) := by decide +kernel
theorem dX7_partsMeet_168 : decode cX7_partsMeet 168 = .ok (.if_icmp .ge 24, 3) := by decide +kernel
theorem dX7_partsMeet_171 : decode cX7_partsMeet 171 = .ok (.iload 9, 2) := by decide +kernel
theorem dX7_partsMeet_173 : decode cX7_partsMeet 173 = .ok (.iload 11, 2) := by decide +kernel
theorem dX7_partsMeet_175 : decode cX7_partsMeet 175 = .ok (.if_icmp .ge 17, 3) := by decide +kernel
theorem dX7_partsMeet_178 : decode cX7_partsMeet 178 = .ok (.iload 7, 2) := by decide +kernel
theorem dX7_partsMeet_180 : decode cX7_partsMeet 180 = .ok (.iload 13, 2) := by decide +kernel
theorem dX7_partsMeet_182 : decode cX7_partsMeet 182 = .ok (.if_icmp .ge 10, 3) := by decide +kernel
theorem dX7_partsMeet_185 : decode cX7_partsMeet 185 = .ok (.iload 9, 2) := by decide +kernel
theorem dX7_partsMeet_187 : decode cX7_partsMeet 187 = .ok (.iload 13, 2) := by decide +kernel
theorem dX7_partsMeet_189 : decode cX7_partsMeet 189 = .ok (.if_icmp .lt 31, 3) := by decide +kernel
theorem dX7_partsMeet_192 : decode cX7_partsMeet 192 = .ok (.iload 7, 2) := by decide +kernel
theorem dX7_partsMeet_194 : decode cX7_partsMeet 194 = .ok (.iload 11, 2) := by decide +kernel
theorem dX7_partsMeet_196 : decode cX7_partsMeet 196 = .ok (.if_icmp .le 26, 3) := by decide +kernel
theorem dX7_partsMeet_199 : decode cX7_partsMeet 199 = .ok (.iload 9, 2) := by decide +kernel
theorem dX7_partsMeet_201 : decode cX7_partsMeet 201 = .ok (.iload 11, 2) := by decide +kernel
theorem dX7_partsMeet_203 : decode cX7_partsMeet 203 = .ok (.if_icmp .le 19, 3) := by decide +kernel
theorem dX7_partsMeet_206 : decode cX7_partsMeet 206 = .ok (.iload 7, 2) := by decide +kernel
theorem dX7_partsMeet_208 : decode cX7_partsMeet 208 = .ok (.iload 13, 2) := by decide +kernel
theorem dX7_partsMeet_210 : decode cX7_partsMeet 210 = .ok (.if_icmp .le 12, 3) := by decide +kernel
theorem dX7_partsMeet_213 : decode cX7_partsMeet 213 = .ok (.iload 9, 2) := by decide +kernel
theorem dX7_partsMeet_215 : decode cX7_partsMeet 215 = .ok (.iload 13, 2) := by decide +kernel
theorem dX7_partsMeet_217 : decode cX7_partsMeet 217 = .ok (.if_icmp .le 5, 3) := by decide +kernel
theorem dX7_partsMeet_220 : decode cX7_partsMeet 220 = .ok (.iconst 0, 1) := by decide +kernel
theorem dX7_partsMeet_221 : decode cX7_partsMeet 221 = .ok (.ireturn, 1) := by decide +kernel
theorem dX7_partsMeet_222 : decode cX7_partsMeet 222 = .ok (.iload 8, 2) := by decide +kernel
theorem dX7_partsMeet_224 : decode cX7_partsMeet 224 = .ok (.iload 6, 2) := by decide +kernel
theorem dX7_partsMeet_226 : decode cX7_partsMeet 226 = .ok (.isub, 1) := by decide +kernel
theorem dX7_partsMeet_227 : decode cX7_partsMeet 227 = .ok (.iload 11, 2) := by decide +kernel
theorem dX7_partsMeet_229 : decode cX7_partsMeet 229 = .ok (.iload 7, 2) := by decide +kernel
theorem dX7_partsMeet_231 : decode cX7_partsMeet 231 = .ok (.isub, 1) := by decide +kernel
theorem dX7_partsMeet_232 : decode cX7_partsMeet 232 = .ok (.imul, 1) := by decide +kernel
theorem dX7_partsMeet_233 : decode cX7_partsMeet 233 = .ok (.iload 9, 2) := by decide +kernel
theorem dX7_partsMeet_235 : decode cX7_partsMeet 235 = .ok (.iload 7, 2) := by decide +kernel
theorem dX7_partsMeet_237 : decode cX7_partsMeet 237 = .ok (.isub, 1) := by decide +kernel
theorem dX7_partsMeet_238 : decode cX7_partsMeet 238 = .ok (.iload 10, 2) := by decide +kernel
theorem dX7_partsMeet_240 : decode cX7_partsMeet 240 = .ok (.iload 6, 2) := by decide +kernel
theorem dX7_partsMeet_242 : decode cX7_partsMeet 242 = .ok (.isub, 1) := by decide +kernel
theorem dX7_partsMeet_243 : decode cX7_partsMeet 243 = .ok (.imul, 1) := by decide +kernel
theorem dX7_partsMeet_244 : decode cX7_partsMeet 244 = .ok (.isub, 1) := by decide +kernel
theorem dX7_partsMeet_245 : decode cX7_partsMeet 245 = .ok (.istore 14, 2) := by decide +kernel
theorem dX7_partsMeet_247 : decode cX7_partsMeet 247 = .ok (.iload 8, 2) := by decide +kernel
theorem dX7_partsMeet_249 : decode cX7_partsMeet 249 = .ok (.iload 6, 2) := by decide +kernel
theorem dX7_partsMeet_251 : decode cX7_partsMeet 251 = .ok (.isub, 1) := by decide +kernel
theorem dX7_partsMeet_252 : decode cX7_partsMeet 252 = .ok (.iload 13, 2) := by decide +kernel
theorem dX7_partsMeet_254 : decode cX7_partsMeet 254 = .ok (.iload 7, 2) := by decide +kernel
theorem dX7_partsMeet_256 : decode cX7_partsMeet 256 = .ok (.isub, 1) := by decide +kernel
theorem dX7_partsMeet_257 : decode cX7_partsMeet 257 = .ok (.imul, 1) := by decide +kernel
theorem dX7_partsMeet_258 : decode cX7_partsMeet 258 = .ok (.iload 9, 2) := by decide +kernel
theorem dX7_partsMeet_260 : decode cX7_partsMeet 260 = .ok (.iload 7, 2) := by decide +kernel
theorem dX7_partsMeet_262 : decode cX7_partsMeet 262 = .ok (.isub, 1) := by decide +kernel
theorem dX7_partsMeet_263 : decode cX7_partsMeet 263 = .ok (.iload 12, 2) := by decide +kernel
theorem dX7_partsMeet_265 : decode cX7_partsMeet 265 = .ok (.iload 6, 2) := by decide +kernel
theorem dX7_partsMeet_267 : decode cX7_partsMeet 267 = .ok (.isub, 1) := by decide +kernel
theorem dX7_partsMeet_268 : decode cX7_partsMeet 268 = .ok (.imul, 1) := by decide +kernel
theorem dX7_partsMeet_269 : decode cX7_partsMeet 269 = .ok (.isub, 1) := by decide +kernel
theorem dX7_partsMeet_270 : decode cX7_partsMeet 270 = .ok (.istore 15, 2) := by decide +kernel
theorem dX7_partsMeet_272 : decode cX7_partsMeet 272 = .ok (.iload 14, 2) := by decide +kernel
theorem dX7_partsMeet_274 : decode cX7_partsMeet 274 = .ok (.ifCond .le 8, 3) := by decide +kernel
theorem dX7_partsMeet_277 : decode cX7_partsMeet 277 = .ok (.iload 15, 2) := by decide +kernel
theorem dX7_partsMeet_279 : decode cX7_partsMeet 279 = .ok (.ifCond .gt 13, 3) := by decide +kernel
theorem dX7_partsMeet_282 : decode cX7_partsMeet 282 = .ok (.iload 14, 2) := by decide +kernel
theorem dX7_partsMeet_284 : decode cX7_partsMeet 284 = .ok (.ifCond .ge 10, 3) := by decide +kernel
theorem dX7_partsMeet_287 : decode cX7_partsMeet 287 = .ok (.iload 15, 2) := by decide +kernel
theorem dX7_partsMeet_289 : decode cX7_partsMeet 289 = .ok (.ifCond .ge 5, 3) := by decide +kernel
theorem dX7_partsMeet_292 : decode cX7_partsMeet 292 = .ok (.iconst 0, 1) := by decide +kernel
theorem dX7_partsMeet_293 : decode cX7_partsMeet 293 = .ok (.ireturn, 1) := by decide +kernel
theorem dX7_partsMeet_294 : decode cX7_partsMeet 294 = .ok (.iload 12, 2) := by decide +kernel
theorem dX7_partsMeet_296 : decode cX7_partsMeet 296 = .ok (.iload 10, 2) := by decide +kernel
theorem dX7_partsMeet_298 : decode cX7_partsMeet 298 = .ok (.isub, 1) := by decide +kernel
theorem dX7_partsMeet_299 : decode cX7_partsMeet 299 = .ok (.iload 7, 2) := by decide +kernel
theorem dX7_partsMeet_301 : decode cX7_partsMeet 301 = .ok (.iload 11, 2) := by decide +kernel
theorem dX7_partsMeet_303 : decode cX7_partsMeet 303 = .ok (.isub, 1) := by decide +kernel
theorem dX7_partsMeet_304 : decode cX7_partsMeet 304 = .ok (.imul, 1) := by decide +kernel
theorem dX7_partsMeet_305 : decode cX7_partsMeet 305 = .ok (.iload 13, 2) := by decide +kernel
theorem dX7_partsMeet_307 : decode cX7_partsMeet 307 = .ok (.iload 11, 2) := by decide +kernel
theorem dX7_partsMeet_309 : decode cX7_partsMeet 309 = .ok (.isub, 1) := by decide +kernel
theorem dX7_partsMeet_310 : decode cX7_partsMeet 310 = .ok (.iload 6, 2) := by decide +kernel
theorem dX7_partsMeet_312 : decode cX7_partsMeet 312 = .ok (.iload 10, 2) := by decide +kernel
theorem dX7_partsMeet_314 : decode cX7_partsMeet 314 = .ok (.isub, 1) := by decide +kernel
theorem dX7_partsMeet_315 : decode cX7_partsMeet 315 = .ok (.imul, 1) := by decide +kernel
theorem dX7_partsMeet_316 : decode cX7_partsMeet 316 = .ok (.isub, 1) := by decide +kernel
theorem dX7_partsMeet_317 : decode cX7_partsMeet 317 = .ok (.istore 16, 2) := by decide +kernel
theorem dX7_partsMeet_319 : decode cX7_partsMeet 319 = .ok (.iload 12, 2) := by decide +kernel
theorem dX7_partsMeet_321 : decode cX7_partsMeet 321 = .ok (.iload 10, 2) := by decide +kernel
theorem dX7_partsMeet_323 : decode cX7_partsMeet 323 = .ok (.isub, 1) := by decide +kernel
theorem dX7_partsMeet_324 : decode cX7_partsMeet 324 = .ok (.iload 9, 2) := by decide +kernel
theorem dX7_partsMeet_326 : decode cX7_partsMeet 326 = .ok (.iload 11, 2) := by decide +kernel
theorem dX7_partsMeet_328 : decode cX7_partsMeet 328 = .ok (.isub, 1) := by decide +kernel
theorem dX7_partsMeet_329 : decode cX7_partsMeet 329 = .ok (.imul, 1) := by decide +kernel
theorem dX7_partsMeet_330 : decode cX7_partsMeet 330 = .ok (.iload 13, 2) := by decide +kernel
theorem dX7_partsMeet_332 : decode cX7_partsMeet 332 = .ok (.iload 11, 2) := by decide +kernel
theorem dX7_partsMeet_334 : decode cX7_partsMeet 334 = .ok (.isub, 1) := by decide +kernel
theorem dX7_partsMeet_335 : decode cX7_partsMeet 335 = .ok (.iload 8, 2) := by decide +kernel
theorem dX7_partsMeet_337 : decode cX7_partsMeet 337 = .ok (.iload 10, 2) := by decide +kernel
theorem dX7_partsMeet_339 : decode cX7_partsMeet 339 = .ok (.isub, 1) := by decide +kernel
theorem dX7_partsMeet_340 : decode cX7_partsMeet 340 = .ok (.imul, 1) := by decide +kernel
theorem dX7_partsMeet_341 : decode cX7_partsMeet 341 = .ok (.isub, 1) := by decide +kernel
theorem dX7_partsMeet_342 : decode cX7_partsMeet 342 = .ok (.istore 17, 2) := by decide +kernel
theorem dX7_partsMeet_344 : decode cX7_partsMeet 344 = .ok (.iload 16, 2) := by decide +kernel
theorem dX7_partsMeet_346 : decode cX7_partsMeet 346 = .ok (.ifCond .le 8, 3) := by decide +kernel
theorem dX7_partsMeet_349 : decode cX7_partsMeet 349 = .ok (.iload 17, 2) := by decide +kernel
theorem dX7_partsMeet_351 : decode cX7_partsMeet 351 = .ok (.ifCond .gt 17, 3) := by decide +kernel
theorem dX7_partsMeet_354 : decode cX7_partsMeet 354 = .ok (.iload 16, 2) := by decide +kernel
theorem dX7_partsMeet_356 : decode cX7_partsMeet 356 = .ok (.ifCond .ge 8, 3) := by decide +kernel
theorem dX7_partsMeet_359 : decode cX7_partsMeet 359 = .ok (.iload 17, 2) := by decide +kernel
theorem dX7_partsMeet_361 : decode cX7_partsMeet 361 = .ok (.ifCond .lt 7, 3) := by decide +kernel
theorem dX7_partsMeet_364 : decode cX7_partsMeet 364 = .ok (.iconst 1, 1) := by decide +kernel
theorem dX7_partsMeet_365 : decode cX7_partsMeet 365 = .ok (.goto 4, 3) := by decide +kernel
theorem dX7_partsMeet_368 : decode cX7_partsMeet 368 = .ok (.iconst 0, 1) := by decide +kernel
theorem dX7_partsMeet_369 : decode cX7_partsMeet 369 = .ok (.ireturn, 1) := by decide +kernel
theorem dX7_where_0 : decode cX7_where 0 = .ok (.iconst 0, 1) := by decide +kernel
theorem dX7_where_1 : decode cX7_where 1 = .ok (.istore_n 3, 1) := by decide +kernel
theorem dX7_where_2 : decode cX7_where 2 = .ok (.iconst 0, 1) := by decide +kernel
theorem dX7_where_3 : decode cX7_where 3 = .ok (.istore 4, 2) := by decide +kernel
theorem dX7_where_5 : decode cX7_where 5 = .ok (.iload 4, 2) := by decide +kernel
theorem dX7_where_7 : decode cX7_where 7 = .ok (.aload_n 0, 1) := by decide +kernel
theorem dX7_where_8 : decode cX7_where 8 = .ok (.getfield 9, 3) := by decide +kernel
theorem dX7_where_11 : decode cX7_where 11 = .ok (.if_icmp .ge 261, 3) := by decide +kernel
theorem dX7_where_14 : decode cX7_where 14 = .ok (.iload 4, 2) := by decide +kernel
theorem dX7_where_16 : decode cX7_where 16 = .ok (.iconst 1, 1) := by decide +kernel
theorem dX7_where_17 : decode cX7_where 17 = .ok (.iadd, 1) := by decide +kernel
theorem dX7_where_18 : decode cX7_where 18 = .ok (.aload_n 0, 1) := by decide +kernel
theorem dX7_where_19 : decode cX7_where 19 = .ok (.getfield 9, 3) := by decide +kernel
theorem dX7_where_22 : decode cX7_where 22 = .ok (.if_icmp .ge 10, 3) := by decide +kernel
theorem dX7_where_25 : decode cX7_where 25 = .ok (.iload 4, 2) := by decide +kernel
theorem dX7_where_27 : decode cX7_where 27 = .ok (.iconst 1, 1) := by decide +kernel
theorem dX7_where_28 : decode cX7_where 28 = .ok (.iadd, 1) := by decide +kernel
theorem dX7_where_29 : decode cX7_where 29 = .ok (.goto 4, 3) := by decide +kernel
theorem dX7_where_32 : decode cX7_where 32 = .ok (.iconst 0, 1) := by decide +kernel
theorem dX7_where_33 : decode cX7_where 33 = .ok (.istore 5, 2) := by decide +kernel
theorem dX7_where_35 : decode cX7_where 35 = .ok (.aload_n 0, 1) := by decide +kernel
theorem dX7_where_36 : decode cX7_where 36 = .ok (.getfield 25, 3) := by decide +kernel
theorem dX7_where_39 : decode cX7_where 39 = .ok (.iload 4, 2) := by decide +kernel
theorem dX7_where_41 : decode cX7_where 41 = .ok (.iaload, 1) := by decide +kernel
theorem dX7_where_42 : decode cX7_where 42 = .ok (.iload_n 2, 1) := by decide +kernel
theorem dX7_where_43 : decode cX7_where 43 = .ok (.if_icmp .le 14, 3) := by decide +kernel
theorem dX7_where_46 : decode cX7_where 46 = .ok (.aload_n 0, 1) := by decide +kernel
theorem dX7_where_47 : decode cX7_where 47 = .ok (.getfield 25, 3) := by decide +kernel
theorem dX7_where_50 : decode cX7_where 50 = .ok (.iload 5, 2) := by decide +kernel
theorem dX7_where_52 : decode cX7_where 52 = .ok (.iaload, 1) := by decide +kernel
theorem dX7_where_53 : decode cX7_where 53 = .ok (.iload_n 2, 1) := by decide +kernel
theorem dX7_where_54 : decode cX7_where 54 = .ok (.if_icmp .gt 212, 3) := by decide +kernel
theorem dX7_where_57 : decode cX7_where 57 = .ok (.aload_n 0, 1) := by decide +kernel
theorem dX7_where_58 : decode cX7_where 58 = .ok (.getfield 25, 3) := by decide +kernel
theorem dX7_where_61 : decode cX7_where 61 = .ok (.iload 4, 2) := by decide +kernel
theorem dX7_where_63 : decode cX7_where 63 = .ok (.iaload, 1) := by decide +kernel
theorem dX7_where_64 : decode cX7_where 64 = .ok (.iload_n 2, 1) := by decide +kernel
theorem dX7_where_65 : decode cX7_where 65 = .ok (.if_icmp .ge 14, 3) := by decide +kernel
theorem dX7_where_68 : decode cX7_where 68 = .ok (.aload_n 0, 1) := by decide +kernel
theorem dX7_where_69 : decode cX7_where 69 = .ok (.getfield 25, 3) := by decide +kernel
theorem dX7_where_72 : decode cX7_where 72 = .ok (.iload 5, 2) := by decide +kernel
theorem dX7_where_74 : decode cX7_where 74 = .ok (.iaload, 1) := by decide +kernel
theorem dX7_where_75 : decode cX7_where 75 = .ok (.iload_n 2, 1) := by decide +kernel
theorem dX7_where_76 : decode cX7_where 76 = .ok (.if_icmp .lt 190, 3) := by decide +kernel
theorem dX7_where_79 : decode cX7_where 79 = .ok (.aload_n 0, 1) := by decide +kernel
theorem dX7_where_80 : decode cX7_where 80 = .ok (.getfield 21, 3) := by decide +kernel
theorem dX7_where_83 : decode cX7_where 83 = .ok (.iload 4, 2) := by decide +kernel
theorem dX7_where_85 : decode cX7_where 85 = .ok (.iaload, 1) := by decide +kernel
theorem dX7_where_86 : decode cX7_where 86 = .ok (.iload_n 1, 1) := by decide +kernel
theorem dX7_where_87 : decode cX7_where 87 = .ok (.if_icmp .ge 17, 3) := by decide +kernel
theorem dX7_where_90 : decode cX7_where 90 = .ok (.aload_n 0, 1) := by decide +kernel
theorem dX7_where_91 : decode cX7_where 91 = .ok (.getfield 21, 3) := by decide +kernel
theorem dX7_where_94 : decode cX7_where 94 = .ok (.iload 5, 2) := by decide +kernel
theorem dX7_where_96 : decode cX7_where 96 = .ok (.iaload, 1) := by decide +kernel
theorem dX7_where_97 : decode cX7_where 97 = .ok (.iload_n 1, 1) := by decide +kernel
theorem dX7_where_98 : decode cX7_where 98 = .ok (.if_icmp .ge 6, 3) := by decide +kernel
theorem dX7_where_101 : decode cX7_where 101 = .ok (.goto 165, 3) := by decide +kernel
theorem dX7_where_104 : decode cX7_where 104 = .ok (.aload_n 0, 1) := by decide +kernel
theorem dX7_where_105 : decode cX7_where 105 = .ok (.getfield 21, 3) := by decide +kernel
theorem dX7_where_108 : decode cX7_where 108 = .ok (.iload 5, 2) := by decide +kernel
theorem dX7_where_110 : decode cX7_where 110 = .ok (.iaload, 1) := by decide +kernel
theorem dX7_where_111 : decode cX7_where 111 = .ok (.aload_n 0, 1) := by decide +kernel
theorem dX7_where_112 : decode cX7_where 112 = .ok (.getfield 21, 3) := by decide +kernel
theorem dX7_where_115 : decode cX7_where 115 = .ok (.iload 4, 2) := by decide +kernel
theorem dX7_where_117 : decode cX7_where 117 = .ok (.iaload, 1) := by decide +kernel
theorem dX7_where_118 : decode cX7_where 118 = .ok (.isub, 1) := by decide +kernel
theorem dX7_where_119 : decode cX7_where 119 = .ok (.iload_n 2, 1) := by decide +kernel
theorem dX7_where_120 : decode cX7_where 120 = .ok (.aload_n 0, 1) := by decide +kernel
theorem dX7_where_121 : decode cX7_where 121 = .ok (.getfield 25, 3) := by decide +kernel
theorem dX7_where_124 : decode cX7_where 124 = .ok (.iload 4, 2) := by decide +kernel
theorem dX7_where_126 : decode cX7_where 126 = .ok (.iaload, 1) := by decide +kernel
theorem dX7_where_127 : decode cX7_where 127 = .ok (.isub, 1) := by decide +kernel
theorem dX7_where_128 : decode cX7_where 128 = .ok (.imul, 1) := by decide +kernel
theorem dX7_where_129 : decode cX7_where 129 = .ok (.aload_n 0, 1) := by decide +kernel
theorem dX7_where_130 : decode cX7_where 130 = .ok (.getfield 25, 3) := by decide +kernel
theorem dX7_where_133 : decode cX7_where 133 = .ok (.iload 5, 2) := by decide +kernel
theorem dX7_where_135 : decode cX7_where 135 = .ok (.iaload, 1) := by decide +kernel
theorem dX7_where_136 : decode cX7_where 136 = .ok (.aload_n 0, 1) := by decide +kernel
theorem dX7_where_137 : decode cX7_where 137 = .ok (.getfield 25, 3) := by decide +kernel
theorem dX7_where_140 : decode cX7_where 140 = .ok (.iload 4, 2) := by decide +kernel
theorem dX7_where_142 : decode cX7_where 142 = .ok (.iaload, 1) := by decide +kernel
theorem dX7_where_143 : decode cX7_where 143 = .ok (.isub, 1) := by decide +kernel
theorem dX7_where_144 : decode cX7_where 144 = .ok (.iload_n 1, 1) := by decide +kernel
theorem dX7_where_145 : decode cX7_where 145 = .ok (.aload_n 0, 1) := by decide +kernel
theorem dX7_where_146 : decode cX7_where 146 = .ok (.getfield 21, 3) := by decide +kernel
theorem dX7_where_149 : decode cX7_where 149 = .ok (.iload 4, 2) := by decide +kernel
theorem dX7_where_151 : decode cX7_where 151 = .ok (.iaload, 1) := by decide +kernel
theorem dX7_where_152 : decode cX7_where 152 = .ok (.isub, 1) := by decide +kernel
theorem dX7_where_153 : decode cX7_where 153 = .ok (.imul, 1) := by decide +kernel
theorem dX7_where_154 : decode cX7_where 154 = .ok (.isub, 1) := by decide +kernel
theorem dX7_where_155 : decode cX7_where 155 = .ok (.istore 6, 2) := by decide +kernel
theorem dX7_where_157 : decode cX7_where 157 = .ok (.iload 6, 2) := by decide +kernel
theorem dX7_where_159 : decode cX7_where 159 = .ok (.ifCond .ne 27, 3) := by decide +kernel
theorem dX7_where_162 : decode cX7_where 162 = .ok (.aload_n 0, 1) := by decide +kernel
theorem dX7_where_163 : decode cX7_where 163 = .ok (.getfield 21, 3) := by decide +kernel
theorem dX7_where_166 : decode cX7_where 166 = .ok (.iload 4, 2) := by decide +kernel
theorem dX7_where_168 : decode cX7_where 168 = .ok (.iaload, 1) := by decide +kernel
theorem dX7_where_169 : decode cX7_where 169 = .ok (.iload_n 1, 1) := by decide +kernel
theorem dX7_where_170 : decode cX7_where 170 = .ok (.if_icmp .le 14, 3) := by decide +kernel
theorem dX7_where_173 : decode cX7_where 173 = .ok (.aload_n 0, 1) := by decide +kernel
theorem dX7_where_174 : decode cX7_where 174 = .ok (.getfield 21, 3) := by decide +kernel
theorem dX7_where_177 : decode cX7_where 177 = .ok (.iload 5, 2) := by decide +kernel
theorem dX7_where_179 : decode cX7_where 179 = .ok (.iaload, 1) := by decide +kernel
theorem dX7_where_180 : decode cX7_where 180 = .ok (.iload_n 1, 1) := by decide +kernel
theorem dX7_where_181 : decode cX7_where 181 = .ok (.if_icmp .gt 5, 3) := by decide +kernel
theorem dX7_where_184 : decode cX7_where 184 = .ok (.iconst 2, 1) := by decide +kernel
theorem dX7_where_185 : decode cX7_where 185 = .ok (.ireturn, 1) := by decide +kernel
theorem dX7_where_186 : decode cX7_where 186 = .ok (.aload_n 0, 1) := by decide +kernel
theorem dX7_where_187 : decode cX7_where 187 = .ok (.getfield 25, 3) := by decide +kernel
theorem dX7_where_190 : decode cX7_where 190 = .ok (.iload 4, 2) := by decide +kernel
theorem dX7_where_192 : decode cX7_where 192 = .ok (.iaload, 1) := by decide +kernel
theorem dX7_where_193 : decode cX7_where 193 = .ok (.iload_n 2, 1) := by decide +kernel
theorem dX7_where_194 : decode cX7_where 194 = .ok (.if_icmp .le 7, 3) := by decide +kernel
theorem dX7_where_197 : decode cX7_where 197 = .ok (.iconst 1, 1) := by decide +kernel
theorem dX7_where_198 : decode cX7_where 198 = .ok (.goto 4, 3) := by decide +kernel
theorem dX7_where_201 : decode cX7_where 201 = .ok (.iconst 0, 1) := by decide +kernel
theorem dX7_where_202 : decode cX7_where 202 = .ok (.aload_n 0, 1) := by decide +kernel
theorem dX7_where_203 : decode cX7_where 203 = .ok (.getfield 25, 3) := by decide +kernel
theorem dX7_where_206 : decode cX7_where 206 = .ok (.iload 5, 2) := by decide +kernel
theorem dX7_where_208 : decode cX7_where 208 = .ok (.iaload, 1) := by decide +kernel
theorem dX7_where_209 : decode cX7_where 209 = .ok (.iload_n 2, 1) := by decide +kernel
theorem dX7_where_210 : decode cX7_where 210 = .ok (.if_icmp .le 7, 3) := by decide +kernel
theorem dX7_where_213 : decode cX7_where 213 = .ok (.iconst 1, 1) := by decide +kernel
theorem dX7_where_214 : decode cX7_where 214 = .ok (.goto 4, 3) := by decide +kernel
theorem dX7_where_217 : decode cX7_where 217 = .ok (.iconst 0, 1) := by decide +kernel
theorem dX7_where_218 : decode cX7_where 218 = .ok (.if_icmp .eq 48, 3) := by decide +kernel
theorem dX7_where_221 : decode cX7_where 221 = .ok (.iload 6, 2) := by decide +kernel
theorem dX7_where_223 : decode cX7_where 223 = .ok (.ifCond .le 7, 3) := by decide +kernel
theorem dX7_where_226 : decode cX7_where 226 = .ok (.iconst 1, 1) := by decide +kernel
theorem dX7_where_227 : decode cX7_where 227 = .ok (.goto 4, 3) := by decide +kernel
theorem dX7_where_230 : decode cX7_where 230 = .ok (.iconst 0, 1) := by decide +kernel
theorem dX7_where_231 : decode cX7_where 231 = .ok (.aload_n 0, 1) := by decide +kernel
theorem dX7_where_232 : decode cX7_where 232 = .ok (.getfield 25, 3) := by decide +kernel
theorem dX7_where_235 : decode cX7_where 235 = .ok (.iload 5, 2) := by decide +kernel
theorem dX7_where_237 : decode cX7_where 237 = .ok (.iaload, 1) := by decide +kernel
theorem dX7_where_238 : decode cX7_where 238 = .ok (.aload_n 0, 1) := by decide +kernel
theorem dX7_where_239 : decode cX7_where 239 = .ok (.getfield 25, 3) := by decide +kernel
theorem dX7_where_242 : decode cX7_where 242 = .ok (.iload 4, 2) := by decide +kernel
theorem dX7_where_244 : decode cX7_where 244 = .ok (.iaload, 1) := by decide +kernel
theorem dX7_where_245 : decode cX7_where 245 = .ok (.if_icmp .le 7, 3) := by decide +kernel
theorem dX7_where_248 : decode cX7_where 248 = .ok (.iconst 1, 1) := by decide +kernel
theorem dX7_where_249 : decode cX7_where 249 = .ok (.goto 4, 3) := by decide +kernel
theorem dX7_where_252 : decode cX7_where 252 = .ok (.iconst 0, 1) := by decide +kernel
theorem dX7_where_253 : decode cX7_where 253 = .ok (.if_icmp .ne 13, 3) := by decide +kernel
theorem dX7_where_256 : decode cX7_where 256 = .ok (.iload_n 3, 1) := by decide +kernel
theorem dX7_where_257 : decode cX7_where 257 = .ok (.ifCond .ne 7, 3) := by decide +kernel
theorem dX7_where_260 : decode cX7_where 260 = .ok (.iconst 1, 1) := by decide +kernel
theorem dX7_where_261 : decode cX7_where 261 = .ok (.goto 4, 3) := by decide +kernel
theorem dX7_where_264 : decode cX7_where 264 = .ok (.iconst 0, 1) := by decide +kernel
theorem dX7_where_265 : decode cX7_where 265 = .ok (.istore_n 3, 1) := by decide +kernel
theorem dX7_where_266 : decode cX7_where 266 = .ok (.iinc 4 1, 3) := by decide +kernel
theorem dX7_where_269 : decode cX7_where 269 = .ok (.goto (-264), 3) := by decide +kernel
theorem dX7_where_272 : decode cX7_where 272 = .ok (.iload_n 3, 1) := by decide +kernel
theorem dX7_where_273 : decode cX7_where 273 = .ok (.ifCond .eq 7, 3) := by decide +kernel
theorem dX7_where_276 : decode cX7_where 276 = .ok (.iconst 1, 1) := by decide +kernel
theorem dX7_where_277 : decode cX7_where 277 = .ok (.goto 4, 3) := by decide +kernel
theorem dX7_where_280 : decode cX7_where 280 = .ok (.iconst 0, 1) := by decide +kernel
theorem dX7_where_281 : decode cX7_where 281 = .ok (.ireturn, 1) := by decide +kernel
theorem dX7_isSound_0 : decode cX7_isSound 0 = .ok (.iconst 0, 1) := by decide +kernel
theorem dX7_isSound_1 : decode cX7_isSound 1 = .ok (.istore_n 2, 1) := by decide +kernel
theorem dX7_isSound_2 : decode cX7_isSound 2 = .ok (.iload_n 2, 1) := by decide +kernel
theorem dX7_isSound_3 : decode cX7_isSound 3 = .ok (.aload_n 0, 1) := by decide +kernel
theorem dX7_isSound_4 : decode cX7_isSound 4 = .ok (.invokevirtual 47, 3) := by decide +kernel
theorem dX7_isSound_7 : decode cX7_isSound 7 = .ok (.if_icmp .ge 22, 3) := by decide +kernel
theorem dX7_isSound_10 : decode cX7_isSound 10 = .ok (.aload_n 0, 1) := by decide +kernel
theorem dX7_isSound_11 : decode cX7_isSound 11 = .ok (.iload_n 2, 1) := by decide +kernel
theorem dX7_isSound_12 : decode cX7_isSound 12 = .ok (.iload_n 2, 1) := by decide +kernel
theorem dX7_isSound_13 : decode cX7_isSound 13 = .ok (.iconst 1, 1) := by decide +kernel
theorem dX7_isSound_14 : decode cX7_isSound 14 = .ok (.iadd, 1) := by decide +kernel
theorem dX7_isSound_15 : decode cX7_isSound 15 = .ok (.invokevirtual 69, 3) := by decide +kernel
theorem dX7_isSound_18 : decode cX7_isSound 18 = .ok (.ifCond .ne 5, 3) := by decide +kernel
theorem dX7_isSound_21 : decode cX7_isSound 21 = .ok (.iconst 0, 1) := by decide +kernel
theorem dX7_isSound_22 : decode cX7_isSound 22 = .ok (.ireturn, 1) := by decide +kernel
theorem dX7_isSound_23 : decode cX7_isSound 23 = .ok (.iinc 2 1, 3) := by decide +kernel
theorem dX7_isSound_26 : decode cX7_isSound 26 = .ok (.goto (-24), 3) := by decide +kernel
theorem dX7_isSound_29 : decode cX7_isSound 29 = .ok (.iload_n 1, 1) := by decide +kernel
theorem dX7_isSound_30 : decode cX7_isSound 30 = .ok (.bipush 6, 2) := by decide +kernel
theorem dX7_isSound_32 : decode cX7_isSound 32 = .ok (.if_icmp .ne 10, 3) := by decide +kernel
theorem dX7_isSound_35 : decode cX7_isSound 35 = .ok (.aload_n 0, 1) := by decide +kernel
theorem dX7_isSound_36 : decode cX7_isSound 36 = .ok (.invokevirtual 73, 3) := by decide +kernel
theorem dX7_isSound_39 : decode cX7_isSound 39 = .ok (.ifCond .eq 7, 3) := by decide +kernel
theorem dX7_isSound_42 : decode cX7_isSound 42 = .ok (.iconst 1, 1) := by decide +kernel
theorem dX7_isSound_43 : decode cX7_isSound 43 = .ok (.goto 4, 3) := by decide +kernel
theorem dX7_isSound_46 : decode cX7_isSound 46 = .ok (.iconst 0, 1) := by decide +kernel
theorem dX7_isSound_47 : decode cX7_isSound 47 = .ok (.ireturn, 1) := by decide +kernel
theorem dX7_isEdgeFree_0 : decode cX7_isEdgeFree 0 = .ok (.aload_n 0, 1) := by decide +kernel
theorem dX7_isEdgeFree_1 : decode cX7_isEdgeFree 1 = .ok (.iload_n 1, 1) := by decide +kernel
theorem dX7_isEdgeFree_2 : decode cX7_isEdgeFree 2 = .ok (.aload_n 0, 1) := by decide +kernel
theorem dX7_isEdgeFree_3 : decode cX7_isEdgeFree 3 = .ok (.getfield 21, 3) := by decide +kernel
theorem dX7_isEdgeFree_6 : decode cX7_isEdgeFree 6 = .ok (.aload_n 0, 1) := by decide +kernel
theorem dX7_isEdgeFree_7 : decode cX7_isEdgeFree 7 = .ok (.iload_n 1, 1) := by decide +kernel
theorem dX7_isEdgeFree_8 : decode cX7_isEdgeFree 8 = .ok (.invokevirtual 77, 3) := by decide +kernel
theorem dX7_isEdgeFree_11 : decode cX7_isEdgeFree 11 = .ok (.iaload, 1) := by decide +kernel
theorem dX7_isEdgeFree_12 : decode cX7_isEdgeFree 12 = .ok (.aload_n 0, 1) := by decide +kernel
theorem dX7_isEdgeFree_13 : decode cX7_isEdgeFree 13 = .ok (.getfield 25, 3) := by decide +kernel
theorem dX7_isEdgeFree_16 : decode cX7_isEdgeFree 16 = .ok (.aload_n 0, 1) := by decide +kernel
theorem dX7_isEdgeFree_17 : decode cX7_isEdgeFree 17 = .ok (.iload_n 1, 1) := by decide +kernel
theorem dX7_isEdgeFree_18 : decode cX7_isEdgeFree 18 = .ok (.invokevirtual 77, 3) := by decide +kernel
theorem dX7_isEdgeFree_21 : decode cX7_isEdgeFree 21 = .ok (.iaload, 1) := by decide +kernel
theorem dX7_isEdgeFree_22 : decode cX7_isEdgeFree 22 = .ok (.invokevirtual 62, 3) := by decide +kernel
theorem dX7_isEdgeFree_25 : decode cX7_isEdgeFree 25 = .ok (.ifCond .eq 5, 3) := by decide +kernel
theorem dX7_isEdgeFree_28 : decode cX7_isEdgeFree 28 = .ok (.iconst 0, 1) := by decide +kernel
theorem dX7_isEdgeFree_29 : decode cX7_isEdgeFree 29 = .ok (.ireturn, 1) := by decide +kernel
theorem dX7_isEdgeFree_30 : decode cX7_isEdgeFree 30 = .ok (.iload_n 2, 1) := by decide +kernel
theorem dX7_isEdgeFree_31 : decode cX7_isEdgeFree 31 = .ok (.istore_n 3, 1) := by decide +kernel
theorem dX7_isEdgeFree_32 : decode cX7_isEdgeFree 32 = .ok (.iload_n 3, 1) := by decide +kernel
theorem dX7_isEdgeFree_33 : decode cX7_isEdgeFree 33 = .ok (.aload_n 0, 1) := by decide +kernel
theorem dX7_isEdgeFree_34 : decode cX7_isEdgeFree 34 = .ok (.invokevirtual 47, 3) := by decide +kernel
theorem dX7_isEdgeFree_37 : decode cX7_isEdgeFree 37 = .ok (.if_icmp .ge 95, 3) := by decide +kernel
theorem dX7_isEdgeFree_40 : decode cX7_isEdgeFree 40 = .ok (.iload_n 3, 1) := by decide +kernel
theorem dX7_isEdgeFree_41 : decode cX7_isEdgeFree 41 = .ok (.iload_n 1, 1) := by decide +kernel
theorem dX7_isEdgeFree_42 : decode cX7_isEdgeFree 42 = .ok (.if_icmp .ne 6, 3) := by decide +kernel
theorem dX7_isEdgeFree_45 : decode cX7_isEdgeFree 45 = .ok (.goto 81, 3) := by decide +kernel
theorem dX7_isEdgeFree_48 : decode cX7_isEdgeFree 48 = .ok (.aload_n 0, 1) := by decide +kernel
theorem dX7_isEdgeFree_49 : decode cX7_isEdgeFree 49 = .ok (.iload_n 1, 1) := by decide +kernel
theorem dX7_isEdgeFree_50 : decode cX7_isEdgeFree 50 = .ok (.invokevirtual 77, 3) := by decide +kernel
theorem dX7_isEdgeFree_53 : decode cX7_isEdgeFree 53 = .ok (.iload_n 3, 1) := by decide +kernel
theorem dX7_isEdgeFree_54 : decode cX7_isEdgeFree 54 = .ok (.if_icmp .ne 21, 3) := by decide +kernel
theorem dX7_isEdgeFree_57 : decode cX7_isEdgeFree 57 = .ok (.aload_n 0, 1) := by decide +kernel
theorem dX7_isEdgeFree_58 : decode cX7_isEdgeFree 58 = .ok (.iload_n 3, 1) := by decide +kernel
theorem dX7_isEdgeFree_59 : decode cX7_isEdgeFree 59 = .ok (.invokevirtual 81, 3) := by decide +kernel
theorem dX7_isEdgeFree_62 : decode cX7_isEdgeFree 62 = .ok (.ifCond .ne 7, 3) := by decide +kernel
theorem dX7_isEdgeFree_65 : decode cX7_isEdgeFree 65 = .ok (.iconst 1, 1) := by decide +kernel
theorem dX7_isEdgeFree_66 : decode cX7_isEdgeFree 66 = .ok (.goto 4, 3) := by decide +kernel
theorem dX7_isEdgeFree_69 : decode cX7_isEdgeFree 69 = .ok (.iconst 0, 1) := by decide +kernel
theorem dX7_isEdgeFree_70 : decode cX7_isEdgeFree 70 = .ok (.istore 4, 2) := by decide +kernel
theorem dX7_isEdgeFree_72 : decode cX7_isEdgeFree 72 = .ok (.goto 47, 3) := by decide +kernel
theorem dX7_isEdgeFree_75 : decode cX7_isEdgeFree 75 = .ok (.aload_n 0, 1) := by decide +kernel
theorem dX7_isEdgeFree_76 : decode cX7_isEdgeFree 76 = .ok (.iload_n 3, 1) := by decide +kernel
theorem dX7_isEdgeFree_77 : decode cX7_isEdgeFree 77 = .ok (.invokevirtual 77, 3) := by decide +kernel
theorem dX7_isEdgeFree_80 : decode cX7_isEdgeFree 80 = .ok (.iload_n 1, 1) := by decide +kernel
theorem dX7_isEdgeFree_81 : decode cX7_isEdgeFree 81 = .ok (.if_icmp .ne 21, 3) := by decide +kernel
theorem dX7_isEdgeFree_84 : decode cX7_isEdgeFree 84 = .ok (.aload_n 0, 1) := by decide +kernel
theorem dX7_isEdgeFree_85 : decode cX7_isEdgeFree 85 = .ok (.iload_n 1, 1) := by decide +kernel
theorem dX7_isEdgeFree_86 : decode cX7_isEdgeFree 86 = .ok (.invokevirtual 81, 3) := by decide +kernel
theorem dX7_isEdgeFree_89 : decode cX7_isEdgeFree 89 = .ok (.ifCond .ne 7, 3) := by decide +kernel
theorem dX7_isEdgeFree_92 : decode cX7_isEdgeFree 92 = .ok (.iconst 1, 1) := by decide +kernel
theorem dX7_isEdgeFree_93 : decode cX7_isEdgeFree 93 = .ok (.goto 4, 3) := by decide +kernel
theorem dX7_isEdgeFree_96 : decode cX7_isEdgeFree 96 = .ok (.iconst 0, 1) := by decide +kernel
theorem dX7_isEdgeFree_97 : decode cX7_isEdgeFree 97 = .ok (.istore 4, 2) := by decide +kernel
theorem dX7_isEdgeFree_99 : decode cX7_isEdgeFree 99 = .ok (.goto 20, 3) := by decide +kernel
theorem dX7_isEdgeFree_102 : decode cX7_isEdgeFree 102 = .ok (.aload_n 0, 1) := by decide +kernel
theorem dX7_isEdgeFree_103 : decode cX7_isEdgeFree 103 = .ok (.iload_n 1, 1) := by decide +kernel
theorem dX7_isEdgeFree_104 : decode cX7_isEdgeFree 104 = .ok (.aload_n 0, 1) := by decide +kernel
theorem dX7_isEdgeFree_105 : decode cX7_isEdgeFree 105 = .ok (.iload_n 3, 1) := by decide +kernel
theorem dX7_isEdgeFree_106 : decode cX7_isEdgeFree 106 = .ok (.invokevirtual 65, 3) := by decide +kernel
theorem dX7_isEdgeFree_109 : decode cX7_isEdgeFree 109 = .ok (.ifCond .ne 7, 3) := by decide +kernel
theorem dX7_isEdgeFree_112 : decode cX7_isEdgeFree 112 = .ok (.iconst 1, 1) := by decide +kernel
theorem dX7_isEdgeFree_113 : decode cX7_isEdgeFree 113 = .ok (.goto 4, 3) := by decide +kernel
theorem dX7_isEdgeFree_116 : decode cX7_isEdgeFree 116 = .ok (.iconst 0, 1) := by decide +kernel
theorem dX7_isEdgeFree_117 : decode cX7_isEdgeFree 117 = .ok (.istore 4, 2) := by decide +kernel
theorem dX7_isEdgeFree_119 : decode cX7_isEdgeFree 119 = .ok (.iload 4, 2) := by decide +kernel
theorem dX7_isEdgeFree_121 : decode cX7_isEdgeFree 121 = .ok (.ifCond .ne 5, 3) := by decide +kernel
theorem dX7_isEdgeFree_124 : decode cX7_isEdgeFree 124 = .ok (.iconst 0, 1) := by decide +kernel
theorem dX7_isEdgeFree_125 : decode cX7_isEdgeFree 125 = .ok (.ireturn, 1) := by decide +kernel
theorem dX7_isEdgeFree_126 : decode cX7_isEdgeFree 126 = .ok (.iinc 3 1, 3) := by decide +kernel
theorem dX7_isEdgeFree_129 : decode cX7_isEdgeFree 129 = .ok (.goto (-97), 3) := by decide +kernel
theorem dX7_isEdgeFree_132 : decode cX7_isEdgeFree 132 = .ok (.iconst 1, 1) := by decide +kernel
theorem dX7_isEdgeFree_133 : decode cX7_isEdgeFree 133 = .ok (.ireturn, 1) := by decide +kernel
theorem dX7_foldsBack_0 : decode cX7_foldsBack 0 = .ok (.iload_n 1, 1) := by decide +kernel
theorem dX7_foldsBack_1 : decode cX7_foldsBack 1 = .ok (.ifCond .le 9, 3) := by decide +kernel
theorem dX7_foldsBack_4 : decode cX7_foldsBack 4 = .ok (.iload_n 1, 1) := by decide +kernel
theorem dX7_foldsBack_5 : decode cX7_foldsBack 5 = .ok (.iconst 1, 1) := by decide +kernel
theorem dX7_foldsBack_6 : decode cX7_foldsBack 6 = .ok (.isub, 1) := by decide +kernel
theorem dX7_foldsBack_7 : decode cX7_foldsBack 7 = .ok (.goto 9, 3) := by decide +kernel
theorem dX7_foldsBack_10 : decode cX7_foldsBack 10 = .ok (.aload_n 0, 1) := by decide +kernel
theorem dX7_foldsBack_11 : decode cX7_foldsBack 11 = .ok (.getfield 9, 3) := by decide +kernel
theorem dX7_foldsBack_14 : decode cX7_foldsBack 14 = .ok (.iconst 1, 1) := by decide +kernel
theorem dX7_foldsBack_15 : decode cX7_foldsBack 15 = .ok (.isub, 1) := by decide +kernel
theorem dX7_foldsBack_16 : decode cX7_foldsBack 16 = .ok (.istore_n 2, 1) := by decide +kernel
theorem dX7_foldsBack_17 : decode cX7_foldsBack 17 = .ok (.iload_n 1, 1) := by decide +kernel
theorem dX7_foldsBack_18 : decode cX7_foldsBack 18 = .ok (.iconst 1, 1) := by decide +kernel
theorem dX7_foldsBack_19 : decode cX7_foldsBack 19 = .ok (.iadd, 1) := by decide +kernel
theorem dX7_foldsBack_20 : decode cX7_foldsBack 20 = .ok (.aload_n 0, 1) := by decide +kernel
theorem dX7_foldsBack_21 : decode cX7_foldsBack 21 = .ok (.getfield 9, 3) := by decide +kernel
theorem dX7_foldsBack_24 : decode cX7_foldsBack 24 = .ok (.if_icmp .ge 9, 3) := by decide +kernel
theorem dX7_foldsBack_27 : decode cX7_foldsBack 27 = .ok (.iload_n 1, 1) := by decide +kernel
theorem dX7_foldsBack_28 : decode cX7_foldsBack 28 = .ok (.iconst 1, 1) := by decide +kernel
theorem dX7_foldsBack_29 : decode cX7_foldsBack 29 = .ok (.iadd, 1) := by decide +kernel
theorem dX7_foldsBack_30 : decode cX7_foldsBack 30 = .ok (.goto 4, 3) := by decide +kernel
theorem dX7_foldsBack_33 : decode cX7_foldsBack 33 = .ok (.iconst 0, 1) := by decide +kernel
theorem dX7_foldsBack_34 : decode cX7_foldsBack 34 = .ok (.istore_n 3, 1) := by decide +kernel
theorem dX7_foldsBack_35 : decode cX7_foldsBack 35 = .ok (.aload_n 0, 1) := by decide +kernel
theorem dX7_foldsBack_36 : decode cX7_foldsBack 36 = .ok (.getfield 21, 3) := by decide +kernel
theorem dX7_foldsBack_39 : decode cX7_foldsBack 39 = .ok (.iload_n 2, 1) := by decide +kernel
theorem dX7_foldsBack_40 : decode cX7_foldsBack 40 = .ok (.iaload, 1) := by decide +kernel
theorem dX7_foldsBack_41 : decode cX7_foldsBack 41 = .ok (.aload_n 0, 1) := by decide +kernel
theorem dX7_foldsBack_42 : decode cX7_foldsBack 42 = .ok (.getfield 21, 3) := by decide +kernel
theorem dX7_foldsBack_45 : decode cX7_foldsBack 45 = .ok (.iload_n 1, 1) := by decide +kernel
theorem dX7_foldsBack_46 : decode cX7_foldsBack 46 = .ok (.iaload, 1) := by decide +kernel
theorem dX7_foldsBack_47 : decode cX7_foldsBack 47 = .ok (.isub, 1) := by decide +kernel
theorem dX7_foldsBack_48 : decode cX7_foldsBack 48 = .ok (.istore 4, 2) := by decide +kernel
theorem dX7_foldsBack_50 : decode cX7_foldsBack 50 = .ok (.aload_n 0, 1) := by decide +kernel
theorem dX7_foldsBack_51 : decode cX7_foldsBack 51 = .ok (.getfield 25, 3) := by decide +kernel
theorem dX7_foldsBack_54 : decode cX7_foldsBack 54 = .ok (.iload_n 2, 1) := by decide +kernel
theorem dX7_foldsBack_55 : decode cX7_foldsBack 55 = .ok (.iaload, 1) := by decide +kernel
theorem dX7_foldsBack_56 : decode cX7_foldsBack 56 = .ok (.aload_n 0, 1) := by decide +kernel
theorem dX7_foldsBack_57 : decode cX7_foldsBack 57 = .ok (.getfield 25, 3) := by decide +kernel
theorem dX7_foldsBack_60 : decode cX7_foldsBack 60 = .ok (.iload_n 1, 1) := by decide +kernel
theorem dX7_foldsBack_61 : decode cX7_foldsBack 61 = .ok (.iaload, 1) := by decide +kernel
theorem dX7_foldsBack_62 : decode cX7_foldsBack 62 = .ok (.isub, 1) := by decide +kernel
theorem dX7_foldsBack_63 : decode cX7_foldsBack 63 = .ok (.istore 5, 2) := by decide +kernel
theorem dX7_foldsBack_65 : decode cX7_foldsBack 65 = .ok (.aload_n 0, 1) := by decide +kernel
theorem dX7_foldsBack_66 : decode cX7_foldsBack 66 = .ok (.getfield 21, 3) := by decide +kernel
theorem dX7_foldsBack_69 : decode cX7_foldsBack 69 = .ok (.iload_n 3, 1) := by decide +kernel
theorem dX7_foldsBack_70 : decode cX7_foldsBack 70 = .ok (.iaload, 1) := by decide +kernel
theorem dX7_foldsBack_71 : decode cX7_foldsBack 71 = .ok (.aload_n 0, 1) := by decide +kernel
theorem dX7_foldsBack_72 : decode cX7_foldsBack 72 = .ok (.getfield 21, 3) := by decide +kernel
theorem dX7_foldsBack_75 : decode cX7_foldsBack 75 = .ok (.iload_n 1, 1) := by decide +kernel
theorem dX7_foldsBack_76 : decode cX7_foldsBack 76 = .ok (.iaload, 1) := by decide +kernel
theorem dX7_foldsBack_77 : decode cX7_foldsBack 77 = .ok (.isub, 1) := by decide +kernel
theorem dX7_foldsBack_78 : decode cX7_foldsBack 78 = .ok (.istore 6, 2) := by decide +kernel
theorem dX7_foldsBack_80 : decode cX7_foldsBack 80 = .ok (.aload_n 0, 1) := by decide +kernel
theorem dX7_foldsBack_81 : decode cX7_foldsBack 81 = .ok (.getfield 25, 3) := by decide +kernel
theorem dX7_foldsBack_84 : decode cX7_foldsBack 84 = .ok (.iload_n 3, 1) := by decide +kernel
theorem dX7_foldsBack_85 : decode cX7_foldsBack 85 = .ok (.iaload, 1) := by decide +kernel
theorem dX7_foldsBack_86 : decode cX7_foldsBack 86 = .ok (.aload_n 0, 1) := by decide +kernel
theorem dX7_foldsBack_87 : decode cX7_foldsBack 87 = .ok (.getfield 25, 3) := by decide +kernel
theorem dX7_foldsBack_90 : decode cX7_foldsBack 90 = .ok (.iload_n 1, 1) := by decide +kernel
theorem dX7_foldsBack_91 : decode cX7_foldsBack 91 = .ok (.iaload, 1) := by decide +kernel
theorem dX7_foldsBack_92 : decode cX7_foldsBack 92 = .ok (.isub, 1) := by decide +kernel
theorem dX7_foldsBack_93 : decode cX7_foldsBack 93 = .ok (.istore 7, 2) := by decide +kernel
theorem dX7_foldsBack_95 : decode cX7_foldsBack 95 = .ok (.iload 4, 2) := by decide +kernel
theorem dX7_foldsBack_97 : decode cX7_foldsBack 97 = .ok (.iload 7, 2) := by decide +kernel
theorem dX7_foldsBack_99 : decode cX7_foldsBack 99 = .ok (.imul, 1) := by decide +kernel
theorem dX7_foldsBack_100 : decode cX7_foldsBack 100 = .ok (.iload 5, 2) := by decide +kernel
theorem dX7_foldsBack_102 : decode cX7_foldsBack 102 = .ok (.iload 6, 2) := by decide +kernel
theorem dX7_foldsBack_104 : decode cX7_foldsBack 104 = .ok (.imul, 1) := by decide +kernel
theorem dX7_foldsBack_105 : decode cX7_foldsBack 105 = .ok (.if_icmp .ne 21, 3) := by decide +kernel
theorem dX7_foldsBack_108 : decode cX7_foldsBack 108 = .ok (.iload 4, 2) := by decide +kernel
theorem dX7_foldsBack_110 : decode cX7_foldsBack 110 = .ok (.iload 6, 2) := by decide +kernel
theorem dX7_foldsBack_112 : decode cX7_foldsBack 112 = .ok (.imul, 1) := by decide +kernel
theorem dX7_foldsBack_113 : decode cX7_foldsBack 113 = .ok (.iload 5, 2) := by decide +kernel
theorem dX7_foldsBack_115 : decode cX7_foldsBack 115 = .ok (.iload 7, 2) := by decide +kernel
theorem dX7_foldsBack_117 : decode cX7_foldsBack 117 = .ok (.imul, 1) := by decide +kernel
theorem dX7_foldsBack_118 : decode cX7_foldsBack 118 = .ok (.iadd, 1) := by decide +kernel
theorem dX7_foldsBack_119 : decode cX7_foldsBack 119 = .ok (.ifCond .le 7, 3) := by decide +kernel
theorem dX7_foldsBack_122 : decode cX7_foldsBack 122 = .ok (.iconst 1, 1) := by decide +kernel
theorem dX7_foldsBack_123 : decode cX7_foldsBack 123 = .ok (.goto 4, 3) := by decide +kernel
theorem dX7_foldsBack_126 : decode cX7_foldsBack 126 = .ok (.iconst 0, 1) := by decide +kernel
theorem dX7_foldsBack_127 : decode cX7_foldsBack 127 = .ok (.ireturn, 1) := by decide +kernel
theorem dX7_hasRightAngles_0 : decode cX7_hasRightAngles 0 = .ok (.iconst 0, 1) := by decide +kernel
theorem dX7_hasRightAngles_1 : decode cX7_hasRightAngles 1 = .ok (.istore_n 1, 1) := by decide +kernel
theorem dX7_hasRightAngles_2 : decode cX7_hasRightAngles 2 = .ok (.iload_n 1, 1) := by decide +kernel
theorem dX7_hasRightAngles_3 : decode cX7_hasRightAngles 3 = .ok (.aload_n 0, 1) := by decide +kernel
theorem dX7_hasRightAngles_4 : decode cX7_hasRightAngles 4 = .ok (.getfield 9, 3) := by decide +kernel
theorem dX7_hasRightAngles_7 : decode cX7_hasRightAngles 7 = .ok (.if_icmp .ge 81, 3) := by decide +kernel
theorem dX7_hasRightAngles_10 : decode cX7_hasRightAngles 10 = .ok (.aload_n 0, 1) := by decide +kernel
theorem dX7_hasRightAngles_11 : decode cX7_hasRightAngles 11 = .ok (.iload_n 1, 1) := by decide +kernel
theorem dX7_hasRightAngles_12 : decode cX7_hasRightAngles 12 = .ok (.invokevirtual 85, 3) := by decide +kernel
theorem dX7_hasRightAngles_15 : decode cX7_hasRightAngles 15 = .ok (.istore_n 2, 1) := by decide +kernel
theorem dX7_hasRightAngles_16 : decode cX7_hasRightAngles 16 = .ok (.aload_n 0, 1) := by decide +kernel
theorem dX7_hasRightAngles_17 : decode cX7_hasRightAngles 17 = .ok (.iload_n 1, 1) := by decide +kernel
theorem dX7_hasRightAngles_18 : decode cX7_hasRightAngles 18 = .ok (.invokevirtual 77, 3) := by decide +kernel
theorem dX7_hasRightAngles_21 : decode cX7_hasRightAngles 21 = .ok (.istore_n 3, 1) := by decide +kernel
theorem dX7_hasRightAngles_22 : decode cX7_hasRightAngles 22 = .ok (.aload_n 0, 1) := by decide +kernel
theorem dX7_hasRightAngles_23 : decode cX7_hasRightAngles 23 = .ok (.getfield 21, 3) := by decide +kernel
theorem dX7_hasRightAngles_26 : decode cX7_hasRightAngles 26 = .ok (.iload_n 2, 1) := by decide +kernel
theorem dX7_hasRightAngles_27 : decode cX7_hasRightAngles 27 = .ok (.iaload, 1) := by decide +kernel
theorem dX7_hasRightAngles_28 : decode cX7_hasRightAngles 28 = .ok (.aload_n 0, 1) := by decide +kernel
theorem dX7_hasRightAngles_29 : decode cX7_hasRightAngles 29 = .ok (.getfield 21, 3) := by decide +kernel
theorem dX7_hasRightAngles_32 : decode cX7_hasRightAngles 32 = .ok (.iload_n 1, 1) := by decide +kernel
theorem dX7_hasRightAngles_33 : decode cX7_hasRightAngles 33 = .ok (.iaload, 1) := by decide +kernel
theorem dX7_hasRightAngles_34 : decode cX7_hasRightAngles 34 = .ok (.isub, 1) := by decide +kernel
theorem dX7_hasRightAngles_35 : decode cX7_hasRightAngles 35 = .ok (.aload_n 0, 1) := by decide +kernel
theorem dX7_hasRightAngles_36 : decode cX7_hasRightAngles 36 = .ok (.getfield 21, 3) := by decide +kernel
theorem dX7_hasRightAngles_39 : decode cX7_hasRightAngles 39 = .ok (.iload_n 3, 1) := by decide +kernel
theorem dX7_hasRightAngles_40 : decode cX7_hasRightAngles 40 = .ok (.iaload, 1) := by decide +kernel
theorem dX7_hasRightAngles_41 : decode cX7_hasRightAngles 41 = .ok (.aload_n 0, 1) := by decide +kernel
theorem dX7_hasRightAngles_42 : decode cX7_hasRightAngles 42 = .ok (.getfield 21, 3) := by decide +kernel
theorem dX7_hasRightAngles_45 : decode cX7_hasRightAngles 45 = .ok (.iload_n 1, 1) := by decide +kernel
theorem dX7_hasRightAngles_46 : decode cX7_hasRightAngles 46 = .ok (.iaload, 1) := by decide +kernel
theorem dX7_hasRightAngles_47 : decode cX7_hasRightAngles 47 = .ok (.isub, 1) := by decide +kernel
theorem dX7_hasRightAngles_48 : decode cX7_hasRightAngles 48 = .ok (.imul, 1) := by decide +kernel
theorem dX7_hasRightAngles_49 : decode cX7_hasRightAngles 49 = .ok (.aload_n 0, 1) := by decide +kernel
theorem dX7_hasRightAngles_50 : decode cX7_hasRightAngles 50 = .ok (.getfield 25, 3) := by decide +kernel
theorem dX7_hasRightAngles_53 : decode cX7_hasRightAngles 53 = .ok (.iload_n 2, 1) := by decide +kernel
theorem dX7_hasRightAngles_54 : decode cX7_hasRightAngles 54 = .ok (.iaload, 1) := by decide +kernel
theorem dX7_hasRightAngles_55 : decode cX7_hasRightAngles 55 = .ok (.aload_n 0, 1) := by decide +kernel
theorem dX7_hasRightAngles_56 : decode cX7_hasRightAngles 56 = .ok (.getfield 25, 3) := by decide +kernel
theorem dX7_hasRightAngles_59 : decode cX7_hasRightAngles 59 = .ok (.iload_n 1, 1) := by decide +kernel
theorem dX7_hasRightAngles_60 : decode cX7_hasRightAngles 60 = .ok (.iaload, 1) := by decide +kernel
theorem dX7_hasRightAngles_61 : decode cX7_hasRightAngles 61 = .ok (.isub, 1) := by decide +kernel
theorem dX7_hasRightAngles_62 : decode cX7_hasRightAngles 62 = .ok (.aload_n 0, 1) := by decide +kernel
theorem dX7_hasRightAngles_63 : decode cX7_hasRightAngles 63 = .ok (.getfield 25, 3) := by decide +kernel
theorem dX7_hasRightAngles_66 : decode cX7_hasRightAngles 66 = .ok (.iload_n 3, 1) := by decide +kernel
theorem dX7_hasRightAngles_67 : decode cX7_hasRightAngles 67 = .ok (.iaload, 1) := by decide +kernel
theorem dX7_hasRightAngles_68 : decode cX7_hasRightAngles 68 = .ok (.aload_n 0, 1) := by decide +kernel
theorem dX7_hasRightAngles_69 : decode cX7_hasRightAngles 69 = .ok (.getfield 25, 3) := by decide +kernel
theorem dX7_hasRightAngles_72 : decode cX7_hasRightAngles 72 = .ok (.iload_n 1, 1) := by decide +kernel
theorem dX7_hasRightAngles_73 : decode cX7_hasRightAngles 73 = .ok (.iaload, 1) := by decide +kernel
theorem dX7_hasRightAngles_74 : decode cX7_hasRightAngles 74 = .ok (.isub, 1) := by decide +kernel
theorem dX7_hasRightAngles_75 : decode cX7_hasRightAngles 75 = .ok (.imul, 1) := by decide +kernel
theorem dX7_hasRightAngles_76 : decode cX7_hasRightAngles 76 = .ok (.iadd, 1) := by decide +kernel
theorem dX7_hasRightAngles_77 : decode cX7_hasRightAngles 77 = .ok (.ifCond .eq 5, 3) := by decide +kernel
theorem dX7_hasRightAngles_80 : decode cX7_hasRightAngles 80 = .ok (.iconst 0, 1) := by decide +kernel
theorem dX7_hasRightAngles_81 : decode cX7_hasRightAngles 81 = .ok (.ireturn, 1) := by decide +kernel
theorem dX7_hasRightAngles_82 : decode cX7_hasRightAngles 82 = .ok (.iinc 1 1, 3) := by decide +kernel
theorem dX7_hasRightAngles_85 : decode cX7_hasRightAngles 85 = .ok (.goto (-83), 3) := by decide +kernel
theorem dX7_hasRightAngles_88 : decode cX7_hasRightAngles 88 = .ok (.iconst 1, 1) := by decide +kernel
theorem dX7_hasRightAngles_89 : decode cX7_hasRightAngles 89 = .ok (.ireturn, 1) := by decide +kernel
theorem dX7_arePlaces_0 : decode cX7_arePlaces 0 = .ok (.iconst 0, 1) := by decide +kernel
theorem dX7_arePlaces_1 : decode cX7_arePlaces 1 = .ok (.istore_n 1, 1) := by decide +kernel
theorem dX7_arePlaces_2 : decode cX7_arePlaces 2 = .ok (.iload_n 1, 1) := by decide +kernel
theorem dX7_arePlaces_3 : decode cX7_arePlaces 3 = .ok (.aload_n 0, 1) := by decide +kernel
theorem dX7_arePlaces_4 : decode cX7_arePlaces 4 = .ok (.getfield 9, 3) := by decide +kernel
theorem dX7_arePlaces_7 : decode cX7_arePlaces 7 = .ok (.if_icmp .ge 29, 3) := by decide +kernel
theorem dX7_arePlaces_10 : decode cX7_arePlaces 10 = .ok (.aload_n 0, 1) := by decide +kernel
theorem dX7_arePlaces_11 : decode cX7_arePlaces 11 = .ok (.getfield 21, 3) := by decide +kernel
theorem dX7_arePlaces_14 : decode cX7_arePlaces 14 = .ok (.iload_n 1, 1) := by decide +kernel
theorem dX7_arePlaces_15 : decode cX7_arePlaces 15 = .ok (.iaload, 1) := by decide +kernel
theorem dX7_arePlaces_16 : decode cX7_arePlaces 16 = .ok (.aload_n 0, 1) := by decide +kernel
theorem dX7_arePlaces_17 : decode cX7_arePlaces 17 = .ok (.getfield 25, 3) := by decide +kernel
theorem dX7_arePlaces_20 : decode cX7_arePlaces 20 = .ok (.iload_n 1, 1) := by decide +kernel
theorem dX7_arePlaces_21 : decode cX7_arePlaces 21 = .ok (.iaload, 1) := by decide +kernel
theorem dX7_arePlaces_22 : decode cX7_arePlaces 22 = .ok (.invokestatic 88, 3) := by decide +kernel
theorem dX7_arePlaces_25 : decode cX7_arePlaces 25 = .ok (.ifCond .ne 5, 3) := by decide +kernel
theorem dX7_arePlaces_28 : decode cX7_arePlaces 28 = .ok (.iconst 0, 1) := by decide +kernel
theorem dX7_arePlaces_29 : decode cX7_arePlaces 29 = .ok (.ireturn, 1) := by decide +kernel
theorem dX7_arePlaces_30 : decode cX7_arePlaces 30 = .ok (.iinc 1 1, 3) := by decide +kernel
theorem dX7_arePlaces_33 : decode cX7_arePlaces 33 = .ok (.goto (-31), 3) := by decide +kernel
theorem dX7_arePlaces_36 : decode cX7_arePlaces 36 = .ok (.iconst 1, 1) := by decide +kernel
theorem dX7_arePlaces_37 : decode cX7_arePlaces 37 = .ok (.ireturn, 1) := by decide +kernel
theorem dX7_doubleTriangle_0 : decode cX7_doubleTriangle 0 = .ok (.aload_n 0, 1) := by decide +kernel
theorem dX7_doubleTriangle_1 : decode cX7_doubleTriangle 1 = .ok (.iload_n 1, 1) := by decide +kernel
theorem dX7_doubleTriangle_2 : decode cX7_doubleTriangle 2 = .ok (.invokevirtual 77, 3) := by decide +kernel
theorem dX7_doubleTriangle_5 : decode cX7_doubleTriangle 5 = .ok (.istore_n 2, 1) := by decide +kernel
theorem dX7_doubleTriangle_6 : decode cX7_doubleTriangle 6 = .ok (.aload_n 0, 1) := by decide +kernel
theorem dX7_doubleTriangle_7 : decode cX7_doubleTriangle 7 = .ok (.aload_n 0, 1) := by decide +kernel
theorem dX7_doubleTriangle_8 : decode cX7_doubleTriangle 8 = .ok (.iload_n 1, 1) := by decide +kernel
theorem dX7_doubleTriangle_9 : decode cX7_doubleTriangle 9 = .ok (.invokevirtual 85, 3) := by decide +kernel
theorem dX7_doubleTriangle_12 : decode cX7_doubleTriangle 12 = .ok (.aload_n 0, 1) := by decide +kernel
theorem dX7_doubleTriangle_13 : decode cX7_doubleTriangle 13 = .ok (.getfield 21, 3) := by decide +kernel
theorem dX7_doubleTriangle_16 : decode cX7_doubleTriangle 16 = .ok (.iload_n 2, 1) := by decide +kernel
theorem dX7_doubleTriangle_17 : decode cX7_doubleTriangle 17 = .ok (.iaload, 1) := by decide +kernel
theorem dX7_doubleTriangle_18 : decode cX7_doubleTriangle 18 = .ok (.aload_n 0, 1) := by decide +kernel
theorem dX7_doubleTriangle_19 : decode cX7_doubleTriangle 19 = .ok (.getfield 25, 3) := by decide +kernel
theorem dX7_doubleTriangle_22 : decode cX7_doubleTriangle 22 = .ok (.iload_n 2, 1) := by decide +kernel
theorem dX7_doubleTriangle_23 : decode cX7_doubleTriangle 23 = .ok (.iaload, 1) := by decide +kernel
theorem dX7_doubleTriangle_24 : decode cX7_doubleTriangle 24 = .ok (.invokevirtual 51, 3) := by decide +kernel
theorem dX7_doubleTriangle_27 : decode cX7_doubleTriangle 27 = .ok (.invokestatic 91, 3) := by decide +kernel
theorem dX7_doubleTriangle_30 : decode cX7_doubleTriangle 30 = .ok (.ireturn, 1) := by decide +kernel
theorem dX7_doubleArea_0 : decode cX7_doubleArea 0 = .ok (.iconst 0, 1) := by decide +kernel
theorem dX7_doubleArea_1 : decode cX7_doubleArea 1 = .ok (.istore_n 1, 1) := by decide +kernel
theorem dX7_doubleArea_2 : decode cX7_doubleArea 2 = .ok (.iconst 0, 1) := by decide +kernel
theorem dX7_doubleArea_3 : decode cX7_doubleArea 3 = .ok (.istore_n 2, 1) := by decide +kernel
theorem dX7_doubleArea_4 : decode cX7_doubleArea 4 = .ok (.iload_n 2, 1) := by decide +kernel
theorem dX7_doubleArea_5 : decode cX7_doubleArea 5 = .ok (.aload_n 0, 1) := by decide +kernel
theorem dX7_doubleArea_6 : decode cX7_doubleArea 6 = .ok (.getfield 9, 3) := by decide +kernel
theorem dX7_doubleArea_9 : decode cX7_doubleArea 9 = .ok (.if_icmp .ge 45, 3) := by decide +kernel
theorem dX7_doubleArea_12 : decode cX7_doubleArea 12 = .ok (.aload_n 0, 1) := by decide +kernel
theorem dX7_doubleArea_13 : decode cX7_doubleArea 13 = .ok (.iload_n 2, 1) := by decide +kernel
theorem dX7_doubleArea_14 : decode cX7_doubleArea 14 = .ok (.invokevirtual 77, 3) := by decide +kernel
theorem dX7_doubleArea_17 : decode cX7_doubleArea 17 = .ok (.istore_n 3, 1) := by decide +kernel
theorem dX7_doubleArea_18 : decode cX7_doubleArea 18 = .ok (.iload_n 1, 1) := by decide +kernel
theorem dX7_doubleArea_19 : decode cX7_doubleArea 19 = .ok (.aload_n 0, 1) := by decide +kernel
theorem dX7_doubleArea_20 : decode cX7_doubleArea 20 = .ok (.getfield 21, 3) := by decide +kernel
theorem dX7_doubleArea_23 : decode cX7_doubleArea 23 = .ok (.iload_n 2, 1) := by decide +kernel
theorem dX7_doubleArea_24 : decode cX7_doubleArea 24 = .ok (.iaload, 1) := by decide +kernel
theorem dX7_doubleArea_25 : decode cX7_doubleArea 25 = .ok (.aload_n 0, 1) := by decide +kernel
theorem dX7_doubleArea_26 : decode cX7_doubleArea 26 = .ok (.getfield 25, 3) := by decide +kernel
theorem dX7_doubleArea_29 : decode cX7_doubleArea 29 = .ok (.iload_n 3, 1) := by decide +kernel
theorem dX7_doubleArea_30 : decode cX7_doubleArea 30 = .ok (.iaload, 1) := by decide +kernel
theorem dX7_doubleArea_31 : decode cX7_doubleArea 31 = .ok (.imul, 1) := by decide +kernel
theorem dX7_doubleArea_32 : decode cX7_doubleArea 32 = .ok (.aload_n 0, 1) := by decide +kernel
theorem dX7_doubleArea_33 : decode cX7_doubleArea 33 = .ok (.getfield 21, 3) := by decide +kernel
theorem dX7_doubleArea_36 : decode cX7_doubleArea 36 = .ok (.iload_n 3, 1) := by decide +kernel
theorem dX7_doubleArea_37 : decode cX7_doubleArea 37 = .ok (.iaload, 1) := by decide +kernel
theorem dX7_doubleArea_38 : decode cX7_doubleArea 38 = .ok (.aload_n 0, 1) := by decide +kernel
theorem dX7_doubleArea_39 : decode cX7_doubleArea 39 = .ok (.getfield 25, 3) := by decide +kernel
theorem dX7_doubleArea_42 : decode cX7_doubleArea 42 = .ok (.iload_n 2, 1) := by decide +kernel
theorem dX7_doubleArea_43 : decode cX7_doubleArea 43 = .ok (.iaload, 1) := by decide +kernel
theorem dX7_doubleArea_44 : decode cX7_doubleArea 44 = .ok (.imul, 1) := by decide +kernel
theorem dX7_doubleArea_45 : decode cX7_doubleArea 45 = .ok (.isub, 1) := by decide +kernel
theorem dX7_doubleArea_46 : decode cX7_doubleArea 46 = .ok (.iadd, 1) := by decide +kernel
theorem dX7_doubleArea_47 : decode cX7_doubleArea 47 = .ok (.istore_n 1, 1) := by decide +kernel
theorem dX7_doubleArea_48 : decode cX7_doubleArea 48 = .ok (.iinc 2 1, 3) := by decide +kernel
theorem dX7_doubleArea_51 : decode cX7_doubleArea 51 = .ok (.goto (-47), 3) := by decide +kernel
theorem dX7_doubleArea_54 : decode cX7_doubleArea 54 = .ok (.iload_n 1, 1) := by decide +kernel
theorem dX7_doubleArea_55 : decode cX7_doubleArea 55 = .ok (.invokestatic 91, 3) := by decide +kernel
theorem dX7_doubleArea_58 : decode cX7_doubleArea 58 = .ok (.ireturn, 1) := by decide +kernel
theorem dX7_length_0 : decode cX7_length 0 = .ok (.iconst 0, 1) := by decide +kernel
theorem dX7_length_1 : decode cX7_length 1 = .ok (.istore_n 1, 1) := by decide +kernel
theorem dX7_length_2 : decode cX7_length 2 = .ok (.iconst 0, 1) := by decide +kernel
theorem dX7_length_3 : decode cX7_length 3 = .ok (.istore_n 2, 1) := by decide +kernel
theorem dX7_length_4 : decode cX7_length 4 = .ok (.iload_n 2, 1) := by decide +kernel
theorem dX7_length_5 : decode cX7_length 5 = .ok (.aload_n 0, 1) := by decide +kernel
theorem dX7_length_6 : decode cX7_length 6 = .ok (.getfield 9, 3) := by decide +kernel
theorem dX7_length_9 : decode cX7_length 9 = .ok (.iconst 1, 1) := by decide +kernel
theorem dX7_length_10 : decode cX7_length 10 = .ok (.isub, 1) := by decide +kernel
theorem dX7_length_11 : decode cX7_length 11 = .ok (.if_icmp .ge 49, 3) := by decide +kernel
theorem dX7_length_14 : decode cX7_length 14 = .ok (.iload_n 1, 1) := by decide +kernel
theorem dX7_length_15 : decode cX7_length 15 = .ok (.aload_n 0, 1) := by decide +kernel
theorem dX7_length_16 : decode cX7_length 16 = .ok (.getfield 21, 3) := by decide +kernel
theorem dX7_length_19 : decode cX7_length 19 = .ok (.iload_n 2, 1) := by decide +kernel
theorem dX7_length_20 : decode cX7_length 20 = .ok (.iconst 1, 1) := by decide +kernel
theorem dX7_length_21 : decode cX7_length 21 = .ok (.iadd, 1) := by decide +kernel
theorem dX7_length_22 : decode cX7_length 22 = .ok (.iaload, 1) := by decide +kernel
theorem dX7_length_23 : decode cX7_length 23 = .ok (.aload_n 0, 1) := by decide +kernel
theorem dX7_length_24 : decode cX7_length 24 = .ok (.getfield 21, 3) := by decide +kernel
theorem dX7_length_27 : decode cX7_length 27 = .ok (.iload_n 2, 1) := by decide +kernel
theorem dX7_length_28 : decode cX7_length 28 = .ok (.iaload, 1) := by decide +kernel
theorem dX7_length_29 : decode cX7_length 29 = .ok (.isub, 1) := by decide +kernel
theorem dX7_length_30 : decode cX7_length 30 = .ok (.invokestatic 91, 3) := by decide +kernel
theorem dX7_length_33 : decode cX7_length 33 = .ok (.aload_n 0, 1) := by decide +kernel
theorem dX7_length_34 : decode cX7_length 34 = .ok (.getfield 25, 3) := by decide +kernel
theorem dX7_length_37 : decode cX7_length 37 = .ok (.iload_n 2, 1) := by decide +kernel
theorem dX7_length_38 : decode cX7_length 38 = .ok (.iconst 1, 1) := by decide +kernel
theorem dX7_length_39 : decode cX7_length 39 = .ok (.iadd, 1) := by decide +kernel
theorem dX7_length_40 : decode cX7_length 40 = .ok (.iaload, 1) := by decide +kernel
theorem dX7_length_41 : decode cX7_length 41 = .ok (.aload_n 0, 1) := by decide +kernel
theorem dX7_length_42 : decode cX7_length 42 = .ok (.getfield 25, 3) := by decide +kernel
theorem dX7_length_45 : decode cX7_length 45 = .ok (.iload_n 2, 1) := by decide +kernel
theorem dX7_length_46 : decode cX7_length 46 = .ok (.iaload, 1) := by decide +kernel
theorem dX7_length_47 : decode cX7_length 47 = .ok (.isub, 1) := by decide +kernel
theorem dX7_length_48 : decode cX7_length 48 = .ok (.invokestatic 91, 3) := by decide +kernel
theorem dX7_length_51 : decode cX7_length 51 = .ok (.iadd, 1) := by decide +kernel
theorem dX7_length_52 : decode cX7_length 52 = .ok (.iadd, 1) := by decide +kernel
theorem dX7_length_53 : decode cX7_length 53 = .ok (.istore_n 1, 1) := by decide +kernel
theorem dX7_length_54 : decode cX7_length 54 = .ok (.iinc 2 1, 3) := by decide +kernel
theorem dX7_length_57 : decode cX7_length 57 = .ok (.goto (-53), 3) := by decide +kernel
theorem dX7_length_60 : decode cX7_length 60 = .ok (.iload_n 1, 1) := by decide +kernel
theorem dX7_length_61 : decode cX7_length 61 = .ok (.ireturn, 1) := by decide +kernel
theorem dX7_smoothFrom_0 : decode cX7_smoothFrom 0 = .ok (.aload_n 0, 1) := by decide +kernel
theorem dX7_smoothFrom_1 : decode cX7_smoothFrom 1 = .ok (.aload_n 1, 1) := by decide +kernel
theorem dX7_smoothFrom_2 : decode cX7_smoothFrom 2 = .ok (.getfield 28, 3) := by decide +kernel
theorem dX7_smoothFrom_5 : decode cX7_smoothFrom 5 = .ok (.invokevirtual 32, 3) := by decide +kernel
theorem dX7_smoothFrom_8 : decode cX7_smoothFrom 8 = .ok (.iconst 0, 1) := by decide +kernel
theorem dX7_smoothFrom_9 : decode cX7_smoothFrom 9 = .ok (.istore_n 2, 1) := by decide +kernel
theorem dX7_smoothFrom_10 : decode cX7_smoothFrom 10 = .ok (.iload_n 2, 1) := by decide +kernel
theorem dX7_smoothFrom_11 : decode cX7_smoothFrom 11 = .ok (.aload_n 1, 1) := by decide +kernel
theorem dX7_smoothFrom_12 : decode cX7_smoothFrom 12 = .ok (.getfield 9, 3) := by decide +kernel
theorem dX7_smoothFrom_15 : decode cX7_smoothFrom 15 = .ok (.if_icmp .ge 103, 3) := by decide +kernel
theorem dX7_smoothFrom_18 : decode cX7_smoothFrom 18 = .ok (.aload_n 1, 1) := by decide +kernel
theorem dX7_smoothFrom_19 : decode cX7_smoothFrom 19 = .ok (.iload_n 2, 1) := by decide +kernel
theorem dX7_smoothFrom_20 : decode cX7_smoothFrom 20 = .ok (.invokevirtual 85, 3) := by decide +kernel
theorem dX7_smoothFrom_23 : decode cX7_smoothFrom 23 = .ok (.istore_n 3, 1) := by decide +kernel
theorem dX7_smoothFrom_24 : decode cX7_smoothFrom 24 = .ok (.aload_n 1, 1) := by decide +kernel
theorem dX7_smoothFrom_25 : decode cX7_smoothFrom 25 = .ok (.iload_n 2, 1) := by decide +kernel
theorem dX7_smoothFrom_26 : decode cX7_smoothFrom 26 = .ok (.invokevirtual 77, 3) := by decide +kernel
theorem dX7_smoothFrom_29 : decode cX7_smoothFrom 29 = .ok (.istore 4, 2) := by decide +kernel
theorem dX7_smoothFrom_31 : decode cX7_smoothFrom 31 = .ok (.aload_n 1, 1) := by decide +kernel
theorem dX7_smoothFrom_32 : decode cX7_smoothFrom 32 = .ok (.iload_n 2, 1) := by decide +kernel
theorem dX7_smoothFrom_33 : decode cX7_smoothFrom 33 = .ok (.invokevirtual 94, 3) := by decide +kernel
theorem dX7_smoothFrom_36 : decode cX7_smoothFrom 36 = .ok (.ifCond .eq 22, 3) := by decide +kernel
theorem dX7_smoothFrom_39 : decode cX7_smoothFrom 39 = .ok (.aload_n 0, 1) := by decide +kernel
theorem dX7_smoothFrom_40 : decode cX7_smoothFrom 40 = .ok (.aload_n 1, 1) := by decide +kernel
theorem dX7_smoothFrom_41 : decode cX7_smoothFrom 41 = .ok (.getfield 21, 3) := by decide +kernel
theorem dX7_smoothFrom_44 : decode cX7_smoothFrom 44 = .ok (.iload_n 2, 1) := by decide +kernel
theorem dX7_smoothFrom_45 : decode cX7_smoothFrom 45 = .ok (.iaload, 1) := by decide +kernel
theorem dX7_smoothFrom_46 : decode cX7_smoothFrom 46 = .ok (.aload_n 1, 1) := by decide +kernel
theorem dX7_smoothFrom_47 : decode cX7_smoothFrom 47 = .ok (.getfield 25, 3) := by decide +kernel
theorem dX7_smoothFrom_50 : decode cX7_smoothFrom 50 = .ok (.iload_n 2, 1) := by decide +kernel
theorem dX7_smoothFrom_51 : decode cX7_smoothFrom 51 = .ok (.iaload, 1) := by decide +kernel
theorem dX7_smoothFrom_52 : decode cX7_smoothFrom 52 = .ok (.invokevirtual 36, 3) := by decide +kernel
theorem dX7_smoothFrom_55 : decode cX7_smoothFrom 55 = .ok (.goto 57, 3) := by decide +kernel
theorem dX7_smoothFrom_58 : decode cX7_smoothFrom 58 = .ok (.aload_n 0, 1) := by decide +kernel
theorem dX7_smoothFrom_59 : decode cX7_smoothFrom 59 = .ok (.aload_n 1, 1) := by decide +kernel
theorem dX7_smoothFrom_60 : decode cX7_smoothFrom 60 = .ok (.getfield 21, 3) := by decide +kernel
theorem dX7_smoothFrom_63 : decode cX7_smoothFrom 63 = .ok (.iload_n 3, 1) := by decide +kernel
theorem dX7_smoothFrom_64 : decode cX7_smoothFrom 64 = .ok (.iaload, 1) := by decide +kernel
