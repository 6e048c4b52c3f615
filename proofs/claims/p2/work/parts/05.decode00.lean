theorem dX0_init_0 : decode cX0_init 0 = .ok (.aload_n 0, 1) := by decide +kernel
theorem dX0_init_1 : decode cX0_init 1 = .ok (.invokespecial 1, 3) := by decide +kernel
theorem dX0_init_4 : decode cX0_init 4 = .ok (.aload_n 0, 1) := by decide +kernel
theorem dX0_init_5 : decode cX0_init 5 = .ok (.iconst 0, 1) := by decide +kernel
theorem dX0_init_6 : decode cX0_init 6 = .ok (.putfield 7, 3) := by decide +kernel
theorem dX0_init_9 : decode cX0_init 9 = .ok (.aload_n 0, 1) := by decide +kernel
theorem dX0_init_10 : decode cX0_init 10 = .ok (.iconst 0, 1) := by decide +kernel
theorem dX0_init_11 : decode cX0_init 11 = .ok (.putfield 13, 3) := by decide +kernel
theorem dX0_init_14 : decode cX0_init 14 = .ok (.aload_n 0, 1) := by decide +kernel
theorem dX0_init_15 : decode cX0_init 15 = .ok (.iconst 0, 1) := by decide +kernel
theorem dX0_init_16 : decode cX0_init 16 = .ok (.putfield 16, 3) := by decide +kernel
theorem dX0_init_19 : decode cX0_init 19 = .ok (.aload_n 0, 1) := by decide +kernel
theorem dX0_init_20 : decode cX0_init 20 = .ok (.iconst 0, 1) := by decide +kernel
theorem dX0_init_21 : decode cX0_init 21 = .ok (.putfield 19, 3) := by decide +kernel
theorem dX0_init_24 : decode cX0_init 24 = .ok (.return_, 1) := by decide +kernel
theorem dX0_begin_0 : decode cX0_begin 0 = .ok (.aload_n 0, 1) := by decide +kernel
theorem dX0_begin_1 : decode cX0_begin 1 = .ok (.iload_n 1, 1) := by decide +kernel
theorem dX0_begin_2 : decode cX0_begin 2 = .ok (.putfield 7, 3) := by decide +kernel
theorem dX0_begin_5 : decode cX0_begin 5 = .ok (.aload_n 0, 1) := by decide +kernel
theorem dX0_begin_6 : decode cX0_begin 6 = .ok (.iload_n 1, 1) := by decide +kernel
theorem dX0_begin_7 : decode cX0_begin 7 = .ok (.putfield 16, 3) := by decide +kernel
theorem dX0_begin_10 : decode cX0_begin 10 = .ok (.aload_n 0, 1) := by decide +kernel
theorem dX0_begin_11 : decode cX0_begin 11 = .ok (.iload_n 2, 1) := by decide +kernel
theorem dX0_begin_12 : decode cX0_begin 12 = .ok (.putfield 13, 3) := by decide +kernel
theorem dX0_begin_15 : decode cX0_begin 15 = .ok (.aload_n 0, 1) := by decide +kernel
theorem dX0_begin_16 : decode cX0_begin 16 = .ok (.iload_n 2, 1) := by decide +kernel
theorem dX0_begin_17 : decode cX0_begin 17 = .ok (.putfield 19, 3) := by decide +kernel
theorem dX0_begin_20 : decode cX0_begin 20 = .ok (.return_, 1) := by decide +kernel
theorem dX0_take_0 : decode cX0_take 0 = .ok (.aload_n 0, 1) := by decide +kernel
theorem dX0_take_1 : decode cX0_take 1 = .ok (.iload_n 1, 1) := by decide +kernel
theorem dX0_take_2 : decode cX0_take 2 = .ok (.aload_n 0, 1) := by decide +kernel
theorem dX0_take_3 : decode cX0_take 3 = .ok (.getfield 7, 3) := by decide +kernel
theorem dX0_take_6 : decode cX0_take 6 = .ok (.if_icmp .ge 7, 3) := by decide +kernel
theorem dX0_take_9 : decode cX0_take 9 = .ok (.iload_n 1, 1) := by decide +kernel
theorem dX0_take_10 : decode cX0_take 10 = .ok (.goto 7, 3) := by decide +kernel
theorem dX0_take_13 : decode cX0_take 13 = .ok (.aload_n 0, 1) := by decide +kernel
theorem dX0_take_14 : decode cX0_take 14 = .ok (.getfield 7, 3) := by decide +kernel
theorem dX0_take_17 : decode cX0_take 17 = .ok (.putfield 7, 3) := by decide +kernel
theorem dX0_take_20 : decode cX0_take 20 = .ok (.aload_n 0, 1) := by decide +kernel
theorem dX0_take_21 : decode cX0_take 21 = .ok (.iload_n 1, 1) := by decide +kernel
theorem dX0_take_22 : decode cX0_take 22 = .ok (.aload_n 0, 1) := by decide +kernel
theorem dX0_take_23 : decode cX0_take 23 = .ok (.getfield 16, 3) := by decide +kernel
theorem dX0_take_26 : decode cX0_take 26 = .ok (.if_icmp .le 7, 3) := by decide +kernel
theorem dX0_take_29 : decode cX0_take 29 = .ok (.iload_n 1, 1) := by decide +kernel
theorem dX0_take_30 : decode cX0_take 30 = .ok (.goto 7, 3) := by decide +kernel
theorem dX0_take_33 : decode cX0_take 33 = .ok (.aload_n 0, 1) := by decide +kernel
theorem dX0_take_34 : decode cX0_take 34 = .ok (.getfield 16, 3) := by decide +kernel
theorem dX0_take_37 : decode cX0_take 37 = .ok (.putfield 16, 3) := by decide +kernel
theorem dX0_take_40 : decode cX0_take 40 = .ok (.aload_n 0, 1) := by decide +kernel
theorem dX0_take_41 : decode cX0_take 41 = .ok (.iload_n 2, 1) := by decide +kernel
theorem dX0_take_42 : decode cX0_take 42 = .ok (.aload_n 0, 1) := by decide +kernel
theorem dX0_take_43 : decode cX0_take 43 = .ok (.getfield 13, 3) := by decide +kernel
theorem dX0_take_46 : decode cX0_take 46 = .ok (.if_icmp .ge 7, 3) := by decide +kernel
theorem dX0_take_49 : decode cX0_take 49 = .ok (.iload_n 2, 1) := by decide +kernel
theorem dX0_take_50 : decode cX0_take 50 = .ok (.goto 7, 3) := by decide +kernel
theorem dX0_take_53 : decode cX0_take 53 = .ok (.aload_n 0, 1) := by decide +kernel
theorem dX0_take_54 : decode cX0_take 54 = .ok (.getfield 13, 3) := by decide +kernel
theorem dX0_take_57 : decode cX0_take 57 = .ok (.putfield 13, 3) := by decide +kernel
theorem dX0_take_60 : decode cX0_take 60 = .ok (.aload_n 0, 1) := by decide +kernel
theorem dX0_take_61 : decode cX0_take 61 = .ok (.iload_n 2, 1) := by decide +kernel
theorem dX0_take_62 : decode cX0_take 62 = .ok (.aload_n 0, 1) := by decide +kernel
theorem dX0_take_63 : decode cX0_take 63 = .ok (.getfield 19, 3) := by decide +kernel
theorem dX0_take_66 : decode cX0_take 66 = .ok (.if_icmp .le 7, 3) := by decide +kernel
theorem dX0_take_69 : decode cX0_take 69 = .ok (.iload_n 2, 1) := by decide +kernel
theorem dX0_take_70 : decode cX0_take 70 = .ok (.goto 7, 3) := by decide +kernel
theorem dX0_take_73 : decode cX0_take 73 = .ok (.aload_n 0, 1) := by decide +kernel
theorem dX0_take_74 : decode cX0_take 74 = .ok (.getfield 19, 3) := by decide +kernel
theorem dX0_take_77 : decode cX0_take 77 = .ok (.putfield 19, 3) := by decide +kernel
theorem dX0_take_80 : decode cX0_take 80 = .ok (.return_, 1) := by decide +kernel
theorem dX0_cover_0 : decode cX0_cover 0 = .ok (.aload_n 0, 1) := by decide +kernel
theorem dX0_cover_1 : decode cX0_cover 1 = .ok (.aload_n 1, 1) := by decide +kernel
theorem dX0_cover_2 : decode cX0_cover 2 = .ok (.getfield 22, 3) := by decide +kernel
theorem dX0_cover_5 : decode cX0_cover 5 = .ok (.iconst 0, 1) := by decide +kernel
theorem dX0_cover_6 : decode cX0_cover 6 = .ok (.iaload, 1) := by decide +kernel
theorem dX0_cover_7 : decode cX0_cover 7 = .ok (.aload_n 1, 1) := by decide +kernel
theorem dX0_cover_8 : decode cX0_cover 8 = .ok (.getfield 28, 3) := by decide +kernel
theorem dX0_cover_11 : decode cX0_cover 11 = .ok (.iconst 0, 1) := by decide +kernel
theorem dX0_cover_12 : decode cX0_cover 12 = .ok (.iaload, 1) := by decide +kernel
theorem dX0_cover_13 : decode cX0_cover 13 = .ok (.invokevirtual 31, 3) := by decide +kernel
theorem dX0_cover_16 : decode cX0_cover 16 = .ok (.aload_n 0, 1) := by decide +kernel
theorem dX0_cover_17 : decode cX0_cover 17 = .ok (.aload_n 1, 1) := by decide +kernel
theorem dX0_cover_18 : decode cX0_cover 18 = .ok (.invokevirtual 35, 3) := by decide +kernel
theorem dX0_cover_21 : decode cX0_cover 21 = .ok (.return_, 1) := by decide +kernel
theorem dX0_stretch_0 : decode cX0_stretch 0 = .ok (.iconst 0, 1) := by decide +kernel
theorem dX0_stretch_1 : decode cX0_stretch 1 = .ok (.istore_n 2, 1) := by decide +kernel
theorem dX0_stretch_2 : decode cX0_stretch 2 = .ok (.iload_n 2, 1) := by decide +kernel
theorem dX0_stretch_3 : decode cX0_stretch 3 = .ok (.aload_n 1, 1) := by decide +kernel
theorem dX0_stretch_4 : decode cX0_stretch 4 = .ok (.getfield 39, 3) := by decide +kernel
theorem dX0_stretch_7 : decode cX0_stretch 7 = .ok (.if_icmp .ge 25, 3) := by decide +kernel
theorem dX0_stretch_10 : decode cX0_stretch 10 = .ok (.aload_n 0, 1) := by decide +kernel
theorem dX0_stretch_11 : decode cX0_stretch 11 = .ok (.aload_n 1, 1) := by decide +kernel
theorem dX0_stretch_12 : decode cX0_stretch 12 = .ok (.getfield 22, 3) := by decide +kernel
theorem dX0_stretch_15 : decode cX0_stretch 15 = .ok (.iload_n 2, 1) := by decide +kernel
theorem dX0_stretch_16 : decode cX0_stretch 16 = .ok (.iaload, 1) := by decide +kernel
theorem dX0_stretch_17 : decode cX0_stretch 17 = .ok (.aload_n 1, 1) := by decide +kernel
theorem dX0_stretch_18 : decode cX0_stretch 18 = .ok (.getfield 28, 3) := by decide +kernel
theorem dX0_stretch_21 : decode cX0_stretch 21 = .ok (.iload_n 2, 1) := by decide +kernel
theorem dX0_stretch_22 : decode cX0_stretch 22 = .ok (.iaload, 1) := by decide +kernel
theorem dX0_stretch_23 : decode cX0_stretch 23 = .ok (.invokevirtual 42, 3) := by decide +kernel
theorem dX0_stretch_26 : decode cX0_stretch 26 = .ok (.iinc 2 1, 3) := by decide +kernel
theorem dX0_stretch_29 : decode cX0_stretch 29 = .ok (.goto (-27), 3) := by decide +kernel
theorem dX0_stretch_32 : decode cX0_stretch 32 = .ok (.return_, 1) := by decide +kernel
theorem dX0_isApart_0 : decode cX0_isApart 0 = .ok (.aload_n 0, 1) := by decide +kernel
theorem dX0_isApart_1 : decode cX0_isApart 1 = .ok (.aload_n 1, 1) := by decide +kernel
theorem dX0_isApart_2 : decode cX0_isApart 2 = .ok (.invokevirtual 45, 3) := by decide +kernel
theorem dX0_isApart_5 : decode cX0_isApart 5 = .ok (.ifCond .le 7, 3) := by decide +kernel
theorem dX0_isApart_8 : decode cX0_isApart 8 = .ok (.iconst 1, 1) := by decide +kernel
theorem dX0_isApart_9 : decode cX0_isApart 9 = .ok (.goto 4, 3) := by decide +kernel
theorem dX0_isApart_12 : decode cX0_isApart 12 = .ok (.iconst 0, 1) := by decide +kernel
theorem dX0_isApart_13 : decode cX0_isApart 13 = .ok (.ireturn, 1) := by decide +kernel
theorem dX0_squareApart_0 : decode cX0_squareApart 0 = .ok (.iconst 0, 1) := by decide +kernel
theorem dX0_squareApart_1 : decode cX0_squareApart 1 = .ok (.aload_n 1, 1) := by decide +kernel
theorem dX0_squareApart_2 : decode cX0_squareApart 2 = .ok (.getfield 7, 3) := by decide +kernel
theorem dX0_squareApart_5 : decode cX0_squareApart 5 = .ok (.aload_n 0, 1) := by decide +kernel
theorem dX0_squareApart_6 : decode cX0_squareApart 6 = .ok (.getfield 16, 3) := by decide +kernel
theorem dX0_squareApart_9 : decode cX0_squareApart 9 = .ok (.isub, 1) := by decide +kernel
theorem dX0_squareApart_10 : decode cX0_squareApart 10 = .ok (.aload_n 0, 1) := by decide +kernel
theorem dX0_squareApart_11 : decode cX0_squareApart 11 = .ok (.getfield 7, 3) := by decide +kernel
theorem dX0_squareApart_14 : decode cX0_squareApart 14 = .ok (.aload_n 1, 1) := by decide +kernel
theorem dX0_squareApart_15 : decode cX0_squareApart 15 = .ok (.getfield 16, 3) := by decide +kernel
theorem dX0_squareApart_18 : decode cX0_squareApart 18 = .ok (.isub, 1) := by decide +kernel
theorem dX0_squareApart_19 : decode cX0_squareApart 19 = .ok (.invokestatic 49, 3) := by decide +kernel
theorem dX0_squareApart_22 : decode cX0_squareApart 22 = .ok (.invokestatic 49, 3) := by decide +kernel
theorem dX0_squareApart_25 : decode cX0_squareApart 25 = .ok (.istore_n 2, 1) := by decide +kernel
theorem dX0_squareApart_26 : decode cX0_squareApart 26 = .ok (.iconst 0, 1) := by decide +kernel
theorem dX0_squareApart_27 : decode cX0_squareApart 27 = .ok (.aload_n 1, 1) := by decide +kernel
theorem dX0_squareApart_28 : decode cX0_squareApart 28 = .ok (.getfield 13, 3) := by decide +kernel
theorem dX0_squareApart_31 : decode cX0_squareApart 31 = .ok (.aload_n 0, 1) := by decide +kernel
theorem dX0_squareApart_32 : decode cX0_squareApart 32 = .ok (.getfield 19, 3) := by decide +kernel
theorem dX0_squareApart_35 : decode cX0_squareApart 35 = .ok (.isub, 1) := by decide +kernel
theorem dX0_squareApart_36 : decode cX0_squareApart 36 = .ok (.aload_n 0, 1) := by decide +kernel
theorem dX0_squareApart_37 : decode cX0_squareApart 37 = .ok (.getfield 13, 3) := by decide +kernel
theorem dX0_squareApart_40 : decode cX0_squareApart 40 = .ok (.aload_n 1, 1) := by decide +kernel
theorem dX0_squareApart_41 : decode cX0_squareApart 41 = .ok (.getfield 19, 3) := by decide +kernel
theorem dX0_squareApart_44 : decode cX0_squareApart 44 = .ok (.isub, 1) := by decide +kernel
theorem dX0_squareApart_45 : decode cX0_squareApart 45 = .ok (.invokestatic 49, 3) := by decide +kernel
theorem dX0_squareApart_48 : decode cX0_squareApart 48 = .ok (.invokestatic 49, 3) := by decide +kernel
theorem dX0_squareApart_51 : decode cX0_squareApart 51 = .ok (.istore_n 3, 1) := by decide +kernel
theorem dX0_squareApart_52 : decode cX0_squareApart 52 = .ok (.iload_n 2, 1) := by decide +kernel
theorem dX0_squareApart_53 : decode cX0_squareApart 53 = .ok (.iload_n 2, 1) := by decide +kernel
theorem dX0_squareApart_54 : decode cX0_squareApart 54 = .ok (.imul, 1) := by decide +kernel
theorem dX0_squareApart_55 : decode cX0_squareApart 55 = .ok (.iload_n 3, 1) := by decide +kernel
theorem dX0_squareApart_56 : decode cX0_squareApart 56 = .ok (.iload_n 3, 1) := by decide +kernel
theorem dX0_squareApart_57 : decode cX0_squareApart 57 = .ok (.imul, 1) := by decide +kernel
theorem dX0_squareApart_58 : decode cX0_squareApart 58 = .ok (.iadd, 1) := by decide +kernel
theorem dX0_squareApart_59 : decode cX0_squareApart 59 = .ok (.ireturn, 1) := by decide +kernel
theorem dX1_init_0 : decode cX1_init 0 = .ok (.aload_n 0, 1) := by decide +kernel
theorem dX1_init_1 : decode cX1_init 1 = .ok (.invokespecial 1, 3) := by decide +kernel
theorem dX1_init_4 : decode cX1_init 4 = .ok (.aload_n 0, 1) := by decide +kernel
theorem dX1_init_5 : decode cX1_init 5 = .ok (.aload_n 1, 1) := by decide +kernel
theorem dX1_init_6 : decode cX1_init 6 = .ok (.putfield 7, 3) := by decide +kernel
theorem dX1_init_9 : decode cX1_init 9 = .ok (.aload_n 0, 1) := by decide +kernel
theorem dX1_init_10 : decode cX1_init 10 = .ok (.aload_n 1, 1) := by decide +kernel
theorem dX1_init_11 : decode cX1_init 11 = .ok (.getfield 13, 3) := by decide +kernel
theorem dX1_init_14 : decode cX1_init 14 = .ok (.putfield 19, 3) := by decide +kernel
theorem dX1_init_17 : decode cX1_init 17 = .ok (.aload_n 0, 1) := by decide +kernel
theorem dX1_init_18 : decode cX1_init 18 = .ok (.aload_n 1, 1) := by decide +kernel
theorem dX1_init_19 : decode cX1_init 19 = .ok (.getfield 22, 3) := by decide +kernel
theorem dX1_init_22 : decode cX1_init 22 = .ok (.putfield 25, 3) := by decide +kernel
theorem dX1_init_25 : decode cX1_init 25 = .ok (.aload_n 0, 1) := by decide +kernel
theorem dX1_init_26 : decode cX1_init 26 = .ok (.aload_n 2, 1) := by decide +kernel
theorem dX1_init_27 : decode cX1_init 27 = .ok (.putfield 28, 3) := by decide +kernel
theorem dX1_init_30 : decode cX1_init 30 = .ok (.return_, 1) := by decide +kernel
theorem dX2_init_0 : decode cX2_init 0 = .ok (.aload_n 0, 1) := by decide +kernel
theorem dX2_init_1 : decode cX2_init 1 = .ok (.invokespecial 3, 3) := by decide +kernel
theorem dX2_init_4 : decode cX2_init 4 = .ok (.aload_n 0, 1) := by decide +kernel
theorem dX2_init_5 : decode cX2_init 5 = .ok (.iconst (-1), 1) := by decide +kernel
theorem dX2_init_6 : decode cX2_init 6 = .ok (.putfield 9, 3) := by decide +kernel
theorem dX2_init_9 : decode cX2_init 9 = .ok (.aload_n 0, 1) := by decide +kernel
theorem dX2_init_10 : decode cX2_init 10 = .ok (.iconst (-1), 1) := by decide +kernel
theorem dX2_init_11 : decode cX2_init 11 = .ok (.putfield 15, 3) := by decide +kernel
theorem dX2_init_14 : decode cX2_init 14 = .ok (.aload_n 0, 1) := by decide +kernel
theorem dX2_init_15 : decode cX2_init 15 = .ok (.aconst_null, 1) := by decide +kernel
theorem dX2_init_16 : decode cX2_init 16 = .ok (.putfield 18, 3) := by decide +kernel
theorem dX2_init_19 : decode cX2_init 19 = .ok (.aload_n 0, 1) := by decide +kernel
theorem dX2_init_20 : decode cX2_init 20 = .ok (.iload_n 2, 1) := by decide +kernel
theorem dX2_init_21 : decode cX2_init 21 = .ok (.putfield 22, 3) := by decide +kernel
theorem dX2_init_24 : decode cX2_init 24 = .ok (.aload_n 0, 1) := by decide +kernel
theorem dX2_init_25 : decode cX2_init 25 = .ok (.iload_n 3, 1) := by decide +kernel
theorem dX2_init_26 : decode cX2_init 26 = .ok (.putfield 25, 3) := by decide +kernel
theorem dX2_init_29 : decode cX2_init 29 = .ok (.aload_n 0, 1) := by decide +kernel
theorem dX2_init_30 : decode cX2_init 30 = .ok (.iload 4, 2) := by decide +kernel
theorem dX2_init_32 : decode cX2_init 32 = .ok (.putfield 28, 3) := by decide +kernel
theorem dX2_init_35 : decode cX2_init 35 = .ok (.aload_n 0, 1) := by decide +kernel
theorem dX2_init_36 : decode cX2_init 36 = .ok (.new 31, 3) := by decide +kernel
theorem dX2_init_39 : decode cX2_init 39 = .ok (.dup, 1) := by decide +kernel
theorem dX2_init_40 : decode cX2_init 40 = .ok (.iload_n 1, 1) := by decide +kernel
theorem dX2_init_41 : decode cX2_init 41 = .ok (.ifCond .le 13, 3) := by decide +kernel
theorem dX2_init_44 : decode cX2_init 44 = .ok (.iload_n 1, 1) := by decide +kernel
theorem dX2_init_45 : decode cX2_init 45 = .ok (.iconst 5, 1) := by decide +kernel
theorem dX2_init_46 : decode cX2_init 46 = .ok (.if_icmp .gt 8, 3) := by decide +kernel
theorem dX2_init_49 : decode cX2_init 49 = .ok (.bipush 40, 2) := by decide +kernel
theorem dX2_init_51 : decode cX2_init 51 = .ok (.goto 4, 3) := by decide +kernel
theorem dX2_init_54 : decode cX2_init 54 = .ok (.iconst 1, 1) := by decide +kernel
theorem dX2_init_55 : decode cX2_init 55 = .ok (.iconst 0, 1) := by decide +kernel
theorem dX2_init_56 : decode cX2_init 56 = .ok (.invokespecial 33, 3) := by decide +kernel
theorem dX2_init_59 : decode cX2_init 59 = .ok (.putfield 36, 3) := by decide +kernel
theorem dX2_init_62 : decode cX2_init 62 = .ok (.aload_n 0, 1) := by decide +kernel
theorem dX2_init_63 : decode cX2_init 63 = .ok (.new 40, 3) := by decide +kernel
theorem dX2_init_66 : decode cX2_init 66 = .ok (.dup, 1) := by decide +kernel
theorem dX2_init_67 : decode cX2_init 67 = .ok (.iload_n 1, 1) := by decide +kernel
theorem dX2_init_68 : decode cX2_init 68 = .ok (.invokespecial 42, 3) := by decide +kernel
theorem dX2_init_71 : decode cX2_init 71 = .ok (.putfield 45, 3) := by decide +kernel
theorem dX2_init_74 : decode cX2_init 74 = .ok (.return_, 1) := by decide +kernel
theorem dX2_bends_0 : decode cX2_bends 0 = .ok (.aload_n 0, 1) := by decide +kernel
theorem dX2_bends_1 : decode cX2_bends 1 = .ok (.getfield 45, 3) := by decide +kernel
theorem dX2_bends_4 : decode cX2_bends 4 = .ok (.getfield 48, 3) := by decide +kernel
theorem dX2_bends_7 : decode cX2_bends 7 = .ok (.ifCond .le 18, 3) := by decide +kernel
theorem dX2_bends_10 : decode cX2_bends 10 = .ok (.aload_n 0, 1) := by decide +kernel
theorem dX2_bends_11 : decode cX2_bends 11 = .ok (.getfield 45, 3) := by decide +kernel
theorem dX2_bends_14 : decode cX2_bends 14 = .ok (.getfield 48, 3) := by decide +kernel
theorem dX2_bends_17 : decode cX2_bends 17 = .ok (.iconst 5, 1) := by decide +kernel
theorem dX2_bends_18 : decode cX2_bends 18 = .ok (.if_icmp .gt 7, 3) := by decide +kernel
theorem dX2_bends_21 : decode cX2_bends 21 = .ok (.iconst 1, 1) := by decide +kernel
theorem dX2_bends_22 : decode cX2_bends 22 = .ok (.goto 4, 3) := by decide +kernel
theorem dX2_bends_25 : decode cX2_bends 25 = .ok (.iconst 0, 1) := by decide +kernel
theorem dX2_bends_26 : decode cX2_bends 26 = .ok (.ireturn, 1) := by decide +kernel
theorem dX2_mayHaveCorner_0 : decode cX2_mayHaveCorner 0 = .ok (.iload_n 1, 1) := by decide +kernel
theorem dX2_mayHaveCorner_1 : decode cX2_mayHaveCorner 1 = .ok (.ifCond .lt 31, 3) := by decide +kernel
theorem dX2_mayHaveCorner_4 : decode cX2_mayHaveCorner 4 = .ok (.aload_n 0, 1) := by decide +kernel
theorem dX2_mayHaveCorner_5 : decode cX2_mayHaveCorner 5 = .ok (.getfield 45, 3) := by decide +kernel
theorem dX2_mayHaveCorner_8 : decode cX2_mayHaveCorner 8 = .ok (.getfield 51, 3) := by decide +kernel
theorem dX2_mayHaveCorner_11 : decode cX2_mayHaveCorner 11 = .ok (.ifnull 17, 3) := by decide +kernel
theorem dX2_mayHaveCorner_14 : decode cX2_mayHaveCorner 14 = .ok (.iload_n 1, 1) := by decide +kernel
theorem dX2_mayHaveCorner_15 : decode cX2_mayHaveCorner 15 = .ok (.aload_n 0, 1) := by decide +kernel
theorem dX2_mayHaveCorner_16 : decode cX2_mayHaveCorner 16 = .ok (.getfield 45, 3) := by decide +kernel
theorem dX2_mayHaveCorner_19 : decode cX2_mayHaveCorner 19 = .ok (.getfield 51, 3) := by decide +kernel
theorem dX2_mayHaveCorner_22 : decode cX2_mayHaveCorner 22 = .ok (.getfield 54, 3) := by decide +kernel
theorem dX2_mayHaveCorner_25 : decode cX2_mayHaveCorner 25 = .ok (.if_icmp .ge 7, 3) := by decide +kernel
theorem dX2_mayHaveCorner_28 : decode cX2_mayHaveCorner 28 = .ok (.iconst 1, 1) := by decide +kernel
theorem dX2_mayHaveCorner_29 : decode cX2_mayHaveCorner 29 = .ok (.goto 4, 3) := by decide +kernel
theorem dX2_mayHaveCorner_32 : decode cX2_mayHaveCorner 32 = .ok (.iconst 0, 1) := by decide +kernel
theorem dX2_mayHaveCorner_33 : decode cX2_mayHaveCorner 33 = .ok (.ireturn, 1) := by decide +kernel
theorem dX2_keepFormer_0 : decode cX2_keepFormer 0 = .ok (.aload_n 0, 1) := by decide +kernel
theorem dX2_keepFormer_1 : decode cX2_keepFormer 1 = .ok (.getfield 18, 3) := by decide +kernel
theorem dX2_keepFormer_4 : decode cX2_keepFormer 4 = .ok (.ifnonnull 22, 3) := by decide +kernel
theorem dX2_keepFormer_7 : decode cX2_keepFormer 7 = .ok (.aload_n 0, 1) := by decide +kernel
theorem dX2_keepFormer_8 : decode cX2_keepFormer 8 = .ok (.aload_n 0, 1) := by decide +kernel
theorem dX2_keepFormer_9 : decode cX2_keepFormer 9 = .ok (.getfield 45, 3) := by decide +kernel
theorem dX2_keepFormer_12 : decode cX2_keepFormer 12 = .ok (.putfield 18, 3) := by decide +kernel
theorem dX2_keepFormer_15 : decode cX2_keepFormer 15 = .ok (.aload_n 0, 1) := by decide +kernel
theorem dX2_keepFormer_16 : decode cX2_keepFormer 16 = .ok (.aload_n 0, 1) := by decide +kernel
theorem dX2_keepFormer_17 : decode cX2_keepFormer 17 = .ok (.getfield 18, 3) := by decide +kernel
theorem dX2_keepFormer_20 : decode cX2_keepFormer 20 = .ok (.invokevirtual 57, 3) := by decide +kernel
theorem dX2_keepFormer_23 : decode cX2_keepFormer 23 = .ok (.putfield 45, 3) := by decide +kernel
theorem dX2_keepFormer_26 : decode cX2_keepFormer 26 = .ok (.return_, 1) := by decide +kernel
theorem dX2_leave_0 : decode cX2_leave 0 = .ok (.aload_n 0, 1) := by decide +kernel
theorem dX2_leave_1 : decode cX2_leave 1 = .ok (.invokevirtual 61, 3) := by decide +kernel
theorem dX2_leave_4 : decode cX2_leave 4 = .ok (.aload_n 0, 1) := by decide +kernel
theorem dX2_leave_5 : decode cX2_leave 5 = .ok (.getfield 45, 3) := by decide +kernel
theorem dX2_leave_8 : decode cX2_leave 8 = .ok (.iconst 2, 1) := by decide +kernel
theorem dX2_leave_9 : decode cX2_leave 9 = .ok (.putfield 64, 3) := by decide +kernel
theorem dX2_leave_12 : decode cX2_leave 12 = .ok (.aload_n 0, 1) := by decide +kernel
theorem dX2_leave_13 : decode cX2_leave 13 = .ok (.getfield 45, 3) := by decide +kernel
theorem dX2_leave_16 : decode cX2_leave 16 = .ok (.iload_n 1, 1) := by decide +kernel
theorem dX2_leave_17 : decode cX2_leave 17 = .ok (.putfield 67, 3) := by decide +kernel
theorem dX2_leave_20 : decode cX2_leave 20 = .ok (.return_, 1) := by decide +kernel
theorem dX2_reshape_0 : decode cX2_reshape 0 = .ok (.aload_n 0, 1) := by decide +kernel
theorem dX2_reshape_1 : decode cX2_reshape 1 = .ok (.invokevirtual 61, 3) := by decide +kernel
theorem dX2_reshape_4 : decode cX2_reshape 4 = .ok (.aload_n 0, 1) := by decide +kernel
theorem dX2_reshape_5 : decode cX2_reshape 5 = .ok (.getfield 45, 3) := by decide +kernel
theorem dX2_reshape_8 : decode cX2_reshape 8 = .ok (.aload_n 1, 1) := by decide +kernel
theorem dX2_reshape_9 : decode cX2_reshape 9 = .ok (.invokevirtual 70, 3) := by decide +kernel
theorem dX2_reshape_12 : decode cX2_reshape 12 = .ok (.putfield 51, 3) := by decide +kernel
theorem dX2_reshape_15 : decode cX2_reshape 15 = .ok (.return_, 1) := by decide +kernel
theorem dX2_lose_0 : decode cX2_lose 0 = .ok (.aload_n 0, 1) := by decide +kernel
theorem dX2_lose_1 : decode cX2_lose 1 = .ok (.getfield 45, 3) := by decide +kernel
theorem dX2_lose_4 : decode cX2_lose 4 = .ok (.getfield 51, 3) := by decide +kernel
theorem dX2_lose_7 : decode cX2_lose 7 = .ok (.ifnull 21, 3) := by decide +kernel
theorem dX2_lose_10 : decode cX2_lose 10 = .ok (.iload_n 1, 1) := by decide +kernel
theorem dX2_lose_11 : decode cX2_lose 11 = .ok (.ifCond .lt 17, 3) := by decide +kernel
theorem dX2_lose_14 : decode cX2_lose 14 = .ok (.iload_n 1, 1) := by decide +kernel
theorem dX2_lose_15 : decode cX2_lose 15 = .ok (.aload_n 0, 1) := by decide +kernel
theorem dX2_lose_16 : decode cX2_lose 16 = .ok (.getfield 45, 3) := by decide +kernel
theorem dX2_lose_19 : decode cX2_lose 19 = .ok (.getfield 51, 3) := by decide +kernel
theorem dX2_lose_22 : decode cX2_lose 22 = .ok (.getfield 54, 3) := by decide +kernel
theorem dX2_lose_25 : decode cX2_lose 25 = .ok (.if_icmp .lt 4, 3) := by decide +kernel
theorem dX2_lose_28 : decode cX2_lose 28 = .ok (.return_, 1) := by decide +kernel
theorem dX2_lose_29 : decode cX2_lose 29 = .ok (.aload_n 0, 1) := by decide +kernel
theorem dX2_lose_30 : decode cX2_lose 30 = .ok (.getfield 18, 3) := by decide +kernel
theorem dX2_lose_33 : decode cX2_lose 33 = .ok (.ifnonnull 14, 3) := by decide +kernel
theorem dX2_lose_36 : decode cX2_lose 36 = .ok (.aload_n 0, 1) := by decide +kernel
theorem dX2_lose_37 : decode cX2_lose 37 = .ok (.aload_n 0, 1) := by decide +kernel
theorem dX2_lose_38 : decode cX2_lose 38 = .ok (.getfield 45, 3) := by decide +kernel
theorem dX2_lose_41 : decode cX2_lose 41 = .ok (.getfield 51, 3) := by decide +kernel
theorem dX2_lose_44 : decode cX2_lose 44 = .ok (.invokevirtual 73, 3) := by decide +kernel
theorem dX2_lose_47 : decode cX2_lose 47 = .ok (.aload_n 0, 1) := by decide +kernel
theorem dX2_lose_48 : decode cX2_lose 48 = .ok (.getfield 36, 3) := by decide +kernel
theorem dX2_lose_51 : decode cX2_lose 51 = .ok (.aload_n 0, 1) := by decide +kernel
theorem dX2_lose_52 : decode cX2_lose 52 = .ok (.getfield 45, 3) := by decide +kernel
theorem dX2_lose_55 : decode cX2_lose 55 = .ok (.getfield 77, 3) := by decide +kernel
theorem dX2_lose_58 : decode cX2_lose 58 = .ok (.putfield 54, 3) := by decide +kernel
theorem dX2_lose_61 : decode cX2_lose 61 = .ok (.aload_n 0, 1) := by decide +kernel
theorem dX2_lose_62 : decode cX2_lose 62 = .ok (.getfield 36, 3) := by decide +kernel
theorem dX2_lose_65 : decode cX2_lose 65 = .ok (.aload_n 0, 1) := by decide +kernel
theorem dX2_lose_66 : decode cX2_lose 66 = .ok (.getfield 45, 3) := by decide +kernel
theorem dX2_lose_69 : decode cX2_lose 69 = .ok (.getfield 51, 3) := by decide +kernel
theorem dX2_lose_72 : decode cX2_lose 72 = .ok (.getfield 80, 3) := by decide +kernel
theorem dX2_lose_75 : decode cX2_lose 75 = .ok (.iload_n 1, 1) := by decide +kernel
theorem dX2_lose_76 : decode cX2_lose 76 = .ok (.iaload, 1) := by decide +kernel
theorem dX2_lose_77 : decode cX2_lose 77 = .ok (.aload_n 0, 1) := by decide +kernel
theorem dX2_lose_78 : decode cX2_lose 78 = .ok (.getfield 45, 3) := by decide +kernel
theorem dX2_lose_81 : decode cX2_lose 81 = .ok (.getfield 51, 3) := by decide +kernel
theorem dX2_lose_84 : decode cX2_lose 84 = .ok (.getfield 84, 3) := by decide +kernel
theorem dX2_lose_87 : decode cX2_lose 87 = .ok (.iload_n 1, 1) := by decide +kernel
theorem dX2_lose_88 : decode cX2_lose 88 = .ok (.iaload, 1) := by decide +kernel
theorem dX2_lose_89 : decode cX2_lose 89 = .ok (.invokevirtual 87, 3) := by decide +kernel
theorem dX2_lose_92 : decode cX2_lose 92 = .ok (.aload_n 0, 1) := by decide +kernel
theorem dX2_lose_93 : decode cX2_lose 93 = .ok (.getfield 45, 3) := by decide +kernel
theorem dX2_lose_96 : decode cX2_lose 96 = .ok (.aload_n 0, 1) := by decide +kernel
theorem dX2_lose_97 : decode cX2_lose 97 = .ok (.getfield 36, 3) := by decide +kernel
theorem dX2_lose_100 : decode cX2_lose 100 = .ok (.getfield 54, 3) := by decide +kernel
theorem dX2_lose_103 : decode cX2_lose 103 = .ok (.putfield 77, 3) := by decide +kernel
theorem dX2_lose_106 : decode cX2_lose 106 = .ok (.aload_n 0, 1) := by decide +kernel
theorem dX2_lose_107 : decode cX2_lose 107 = .ok (.getfield 45, 3) := by decide +kernel
theorem dX2_lose_110 : decode cX2_lose 110 = .ok (.getfield 51, 3) := by decide +kernel
theorem dX2_lose_113 : decode cX2_lose 113 = .ok (.iload_n 1, 1) := by decide +kernel
theorem dX2_lose_114 : decode cX2_lose 114 = .ok (.invokevirtual 91, 3) := by decide +kernel
theorem dX2_lose_117 : decode cX2_lose 117 = .ok (.return_, 1) := by decide +kernel
theorem dX3_init_0 : decode cX3_init 0 = .ok (.aload_n 0, 1) := by decide +kernel
theorem dX3_init_1 : decode cX3_init 1 = .ok (.invokespecial 1, 3) := by decide +kernel
theorem dX3_init_4 : decode cX3_init 4 = .ok (.aload_n 0, 1) := by decide +kernel
theorem dX3_init_5 : decode cX3_init 5 = .ok (.lconst 0, 1) := by decide +kernel
theorem dX3_init_6 : decode cX3_init 6 = .ok (.putfield 7, 3) := by decide +kernel
theorem dX3_init_9 : decode cX3_init 9 = .ok (.aload_n 0, 1) := by decide +kernel
theorem dX3_init_10 : decode cX3_init 10 = .ok (.lconst 0, 1) := by decide +kernel
theorem dX3_init_11 : decode cX3_init 11 = .ok (.putfield 13, 3) := by decide +kernel
theorem dX3_init_14 : decode cX3_init 14 = .ok (.return_, 1) := by decide +kernel
theorem dX3_clear_0 : decode cX3_clear 0 = .ok (.aload_n 0, 1) := by decide +kernel
theorem dX3_clear_1 : decode cX3_clear 1 = .ok (.lconst 0, 1) := by decide +kernel
theorem dX3_clear_2 : decode cX3_clear 2 = .ok (.lconst 0, 1) := by decide +kernel
theorem dX3_clear_3 : decode cX3_clear 3 = .ok (.invokevirtual 16, 3) := by decide +kernel
theorem dX3_clear_6 : decode cX3_clear 6 = .ok (.return_, 1) := by decide +kernel
theorem dX3_become_0 : decode cX3_become 0 = .ok (.aload_n 0, 1) := by decide +kernel
theorem dX3_become_1 : decode cX3_become 1 = .ok (.lload_n 1, 1) := by decide +kernel
theorem dX3_become_2 : decode cX3_become 2 = .ok (.putfield 7, 3) := by decide +kernel
theorem dX3_become_5 : decode cX3_become 5 = .ok (.aload_n 0, 1) := by decide +kernel
theorem dX3_become_6 : decode cX3_become 6 = .ok (.lload_n 3, 1) := by decide +kernel
theorem dX3_become_7 : decode cX3_become 7 = .ok (.putfield 13, 3) := by decide +kernel
theorem dX3_become_10 : decode cX3_become 10 = .ok (.return_, 1) := by decide +kernel
theorem dX3_isBelow_0 : decode cX3_isBelow 0 = .ok (.aload_n 0, 1) := by decide +kernel
theorem dX3_isBelow_1 : decode cX3_isBelow 1 = .ok (.getfield 7, 3) := by decide +kernel
theorem dX3_isBelow_4 : decode cX3_isBelow 4 = .ok (.aload_n 1, 1) := by decide +kernel
theorem dX3_isBelow_5 : decode cX3_isBelow 5 = .ok (.getfield 13, 3) := by decide +kernel
theorem dX3_isBelow_8 : decode cX3_isBelow 8 = .ok (.lmul, 1) := by decide +kernel
theorem dX3_isBelow_9 : decode cX3_isBelow 9 = .ok (.aload_n 1, 1) := by decide +kernel
theorem dX3_isBelow_10 : decode cX3_isBelow 10 = .ok (.getfield 7, 3) := by decide +kernel
theorem dX3_isBelow_13 : decode cX3_isBelow 13 = .ok (.aload_n 0, 1) := by decide +kernel
theorem dX3_isBelow_14 : decode cX3_isBelow 14 = .ok (.getfield 13, 3) := by decide +kernel
theorem dX3_isBelow_17 : decode cX3_isBelow 17 = .ok (.lmul, 1) := by decide +kernel
theorem dX3_isBelow_18 : decode cX3_isBelow 18 = .ok (.lcmp, 1) := by decide +kernel
theorem dX3_isBelow_19 : decode cX3_isBelow 19 = .ok (.ifCond .ge 7, 3) := by decide +kernel
theorem dX3_isBelow_22 : decode cX3_isBelow 22 = .ok (.iconst 1, 1) := by decide +kernel
theorem dX3_isBelow_23 : decode cX3_isBelow 23 = .ok (.goto 4, 3) := by decide +kernel
theorem dX3_isBelow_26 : decode cX3_isBelow 26 = .ok (.iconst 0, 1) := by decide +kernel
theorem dX3_isBelow_27 : decode cX3_isBelow 27 = .ok (.ireturn, 1) := by decide +kernel
theorem dX3_isOver_0 : decode cX3_isOver 0 = .ok (.aload_n 0, 1) := by decide +kernel
theorem dX3_isOver_1 : decode cX3_isOver 1 = .ok (.getfield 7, 3) := by decide +kernel
theorem dX3_isOver_4 : decode cX3_isOver 4 = .ok (.iload_n 1, 1) := by decide +kernel
theorem dX3_isOver_5 : decode cX3_isOver 5 = .ok (.i2l, 1) := by decide +kernel
theorem dX3_isOver_6 : decode cX3_isOver 6 = .ok (.iload_n 1, 1) := by decide +kernel
theorem dX3_isOver_7 : decode cX3_isOver 7 = .ok (.i2l, 1) := by decide +kernel
theorem dX3_isOver_8 : decode cX3_isOver 8 = .ok (.lmul, 1) := by decide +kernel
theorem dX3_isOver_9 : decode cX3_isOver 9 = .ok (.aload_n 0, 1) := by decide +kernel
theorem dX3_isOver_10 : decode cX3_isOver 10 = .ok (.getfield 13, 3) := by decide +kernel
theorem dX3_isOver_13 : decode cX3_isOver 13 = .ok (.lmul, 1) := by decide +kernel
theorem dX3_isOver_14 : decode cX3_isOver 14 = .ok (.lcmp, 1) := by decide +kernel
theorem dX3_isOver_15 : decode cX3_isOver 15 = .ok (.ifCond .le 7, 3) := by decide +kernel
theorem dX3_isOver_18 : decode cX3_isOver 18 = .ok (.iconst 1, 1) := by decide +kernel
theorem dX3_isOver_19 : decode cX3_isOver 19 = .ok (.goto 4, 3) := by decide +kernel
theorem dX3_isOver_22 : decode cX3_isOver 22 = .ok (.iconst 0, 1) := by decide +kernel
theorem dX3_isOver_23 : decode cX3_isOver 23 = .ok (.ireturn, 1) := by decide +kernel
theorem dX3_isHalfBelow_0 : decode cX3_isHalfBelow 0 = .ok (.ldc2_w 20, 3) := by decide +kernel
theorem dX3_isHalfBelow_3 : decode cX3_isHalfBelow 3 = .ok (.aload_n 0, 1) := by decide +kernel
theorem dX3_isHalfBelow_4 : decode cX3_isHalfBelow 4 = .ok (.getfield 7, 3) := by decide +kernel
theorem dX3_isHalfBelow_7 : decode cX3_isHalfBelow 7 = .ok (.lmul, 1) := by decide +kernel
theorem dX3_isHalfBelow_8 : decode cX3_isHalfBelow 8 = .ok (.iload_n 1, 1) := by decide +kernel
theorem dX3_isHalfBelow_9 : decode cX3_isHalfBelow 9 = .ok (.i2l, 1) := by decide +kernel
theorem dX3_isHalfBelow_10 : decode cX3_isHalfBelow 10 = .ok (.iload_n 1, 1) := by decide +kernel
theorem dX3_isHalfBelow_11 : decode cX3_isHalfBelow 11 = .ok (.i2l, 1) := by decide +kernel
theorem dX3_isHalfBelow_12 : decode cX3_isHalfBelow 12 = .ok (.lmul, 1) := by decide +kernel
theorem dX3_isHalfBelow_13 : decode cX3_isHalfBelow 13 = .ok (.aload_n 0, 1) := by decide +kernel
theorem dX3_isHalfBelow_14 : decode cX3_isHalfBelow 14 = .ok (.getfield 13, 3) := by decide +kernel
theorem dX3_isHalfBelow_17 : decode cX3_isHalfBelow 17 = .ok (.lmul, 1) := by decide +kernel
theorem dX3_isHalfBelow_18 : decode cX3_isHalfBelow 18 = .ok (.lcmp, 1) := by decide +kernel
theorem dX3_isHalfBelow_19 : decode cX3_isHalfBelow 19 = .ok (.ifCond .ge 7, 3) := by decide +kernel
theorem dX3_isHalfBelow_22 : decode cX3_isHalfBelow 22 = .ok (.iconst 1, 1) := by decide +kernel
theorem dX3_isHalfBelow_23 : decode cX3_isHalfBelow 23 = .ok (.goto 4, 3) := by decide +kernel
theorem dX3_isHalfBelow_26 : decode cX3_isHalfBelow 26 = .ok (.iconst 0, 1) := by decide +kernel
theorem dX3_isHalfBelow_27 : decode cX3_isHalfBelow 27 = .ok (.ireturn, 1) := by decide +kernel
theorem dX3_offer_0 : decode cX3_offer 0 = .ok (.aload_n 0, 1) := by decide +kernel
theorem dX3_offer_1 : decode cX3_offer 1 = .ok (.getfield 13, 3) := by decide +kernel
theorem dX3_offer_4 : decode cX3_offer 4 = .ok (.lconst 0, 1) := by decide +kernel
theorem dX3_offer_5 : decode cX3_offer 5 = .ok (.lcmp, 1) := by decide +kernel
theorem dX3_offer_6 : decode cX3_offer 6 = .ok (.ifCond .eq 19, 3) := by decide +kernel
theorem dX3_offer_9 : decode cX3_offer 9 = .ok (.lload_n 1, 1) := by decide +kernel
theorem dX3_offer_10 : decode cX3_offer 10 = .ok (.aload_n 0, 1) := by decide +kernel
theorem dX3_offer_11 : decode cX3_offer 11 = .ok (.getfield 13, 3) := by decide +kernel
theorem dX3_offer_14 : decode cX3_offer 14 = .ok (.lmul, 1) := by decide +kernel
theorem dX3_offer_15 : decode cX3_offer 15 = .ok (.aload_n 0, 1) := by decide +kernel
theorem dX3_offer_16 : decode cX3_offer 16 = .ok (.getfield 7, 3) := by decide +kernel
theorem dX3_offer_19 : decode cX3_offer 19 = .ok (.lload_n 3, 1) := by decide +kernel
theorem dX3_offer_20 : decode cX3_offer 20 = .ok (.lmul, 1) := by decide +kernel
theorem dX3_offer_21 : decode cX3_offer 21 = .ok (.lcmp, 1) := by decide +kernel
theorem dX3_offer_22 : decode cX3_offer 22 = .ok (.ifCond .ge 13, 3) := by decide +kernel
theorem dX3_offer_25 : decode cX3_offer 25 = .ok (.aload_n 0, 1) := by decide +kernel
theorem dX3_offer_26 : decode cX3_offer 26 = .ok (.lload_n 1, 1) := by decide +kernel
theorem dX3_offer_27 : decode cX3_offer 27 = .ok (.putfield 7, 3) := by decide +kernel
theorem dX3_offer_30 : decode cX3_offer 30 = .ok (.aload_n 0, 1) := by decide +kernel
theorem dX3_offer_31 : decode cX3_offer 31 = .ok (.lload_n 3, 1) := by decide +kernel
theorem dX3_offer_32 : decode cX3_offer 32 = .ok (.putfield 13, 3) := by decide +kernel
theorem dX3_offer_35 : decode cX3_offer 35 = .ok (.return_, 1) := by decide +kernel
theorem dX3_offerFrom_0 : decode cX3_offerFrom 0 = .ok (.iconst 0, 1) := by decide +kernel
theorem dX3_offerFrom_1 : decode cX3_offerFrom 1 = .ok (.istore 4, 2) := by decide +kernel
theorem dX3_offerFrom_3 : decode cX3_offerFrom 3 = .ok (.iload 4, 2) := by decide +kernel
theorem dX3_offerFrom_5 : decode cX3_offerFrom 5 = .ok (.aload_n 3, 1) := by decide +kernel
theorem dX3_offerFrom_6 : decode cX3_offerFrom 6 = .ok (.invokevirtual 22, 3) := by decide +kernel
theorem dX3_offerFrom_9 : decode cX3_offerFrom 9 = .ok (.if_icmp .ge 18, 3) := by decide +kernel
theorem dX3_offerFrom_12 : decode cX3_offerFrom 12 = .ok (.aload_n 0, 1) := by decide +kernel
theorem dX3_offerFrom_13 : decode cX3_offerFrom 13 = .ok (.iload_n 1, 1) := by decide +kernel
theorem dX3_offerFrom_14 : decode cX3_offerFrom 14 = .ok (.iload_n 2, 1) := by decide +kernel
theorem dX3_offerFrom_15 : decode cX3_offerFrom 15 = .ok (.aload_n 3, 1) := by decide +kernel
theorem dX3_offerFrom_16 : decode cX3_offerFrom 16 = .ok (.iload 4, 2) := by decide +kernel
theorem dX3_offerFrom_18 : decode cX3_offerFrom 18 = .ok (.invokevirtual 28, 3) := by decide +kernel
theorem dX3_offerFrom_21 : decode cX3_offerFrom 21 = .ok (.iinc 4 1, 3) := by decide +kernel
theorem dX3_offerFrom_24 : decode cX3_offerFrom 24 = .ok (.goto (-21), 3) := by decide +kernel
theorem dX3_offerFrom_27 : decode cX3_offerFrom 27 = .ok (.return_, 1) := by decide +kernel
theorem dX3_offerPart_0 : decode cX3_offerPart 0 = .ok (.aload_n 3, 1) := by decide +kernel
theorem dX3_offerPart_1 : decode cX3_offerPart 1 = .ok (.iload 4, 2) := by decide +kernel
theorem dX3_offerPart_3 : decode cX3_offerPart 3 = .ok (.invokevirtual 32, 3) := by decide +kernel
theorem dX3_offerPart_6 : decode cX3_offerPart 6 = .ok (.istore 5, 2) := by decide +kernel
theorem dX3_offerPart_8 : decode cX3_offerPart 8 = .ok (.aload_n 3, 1) := by decide +kernel
theorem dX3_offerPart_9 : decode cX3_offerPart 9 = .ok (.getfield 36, 3) := by decide +kernel
theorem dX3_offerPart_12 : decode cX3_offerPart 12 = .ok (.iload 5, 2) := by decide +kernel
theorem dX3_offerPart_14 : decode cX3_offerPart 14 = .ok (.iaload, 1) := by decide +kernel
theorem dX3_offerPart_15 : decode cX3_offerPart 15 = .ok (.aload_n 3, 1) := by decide +kernel
theorem dX3_offerPart_16 : decode cX3_offerPart 16 = .ok (.getfield 36, 3) := by decide +kernel
theorem dX3_offerPart_19 : decode cX3_offerPart 19 = .ok (.iload 4, 2) := by decide +kernel
theorem dX3_offerPart_21 : decode cX3_offerPart 21 = .ok (.iaload, 1) := by decide +kernel
theorem dX3_offerPart_22 : decode cX3_offerPart 22 = .ok (.isub, 1) := by decide +kernel
theorem dX3_offerPart_23 : decode cX3_offerPart 23 = .ok (.istore 6, 2) := by decide +kernel
theorem dX3_offerPart_25 : decode cX3_offerPart 25 = .ok (.aload_n 3, 1) := by decide +kernel
theorem dX3_offerPart_26 : decode cX3_offerPart 26 = .ok (.getfield 40, 3) := by decide +kernel
theorem dX3_offerPart_29 : decode cX3_offerPart 29 = .ok (.iload 5, 2) := by decide +kernel
theorem dX3_offerPart_31 : decode cX3_offerPart 31 = .ok (.iaload, 1) := by decide +kernel
theorem dX3_offerPart_32 : decode cX3_offerPart 32 = .ok (.aload_n 3, 1) := by decide +kernel
theorem dX3_offerPart_33 : decode cX3_offerPart 33 = .ok (.getfield 40, 3) := by decide +kernel
theorem dX3_offerPart_36 : decode cX3_offerPart 36 = .ok (.iload 4, 2) := by decide +kernel
theorem dX3_offerPart_38 : decode cX3_offerPart 38 = .ok (.iaload, 1) := by decide +kernel
theorem dX3_offerPart_39 : decode cX3_offerPart 39 = .ok (.isub, 1) := by decide +kernel
theorem dX3_offerPart_40 : decode cX3_offerPart 40 = .ok (.istore 7, 2) := by decide +kernel
theorem dX3_offerPart_42 : decode cX3_offerPart 42 = .ok (.iload_n 1, 1) := by decide +kernel
theorem dX3_offerPart_43 : decode cX3_offerPart 43 = .ok (.aload_n 3, 1) := by decide +kernel
theorem dX3_offerPart_44 : decode cX3_offerPart 44 = .ok (.getfield 36, 3) := by decide +kernel
theorem dX3_offerPart_47 : decode cX3_offerPart 47 = .ok (.iload 4, 2) := by decide +kernel
theorem dX3_offerPart_49 : decode cX3_offerPart 49 = .ok (.iaload, 1) := by decide +kernel
theorem dX3_offerPart_50 : decode cX3_offerPart 50 = .ok (.isub, 1) := by decide +kernel
theorem dX3_offerPart_51 : decode cX3_offerPart 51 = .ok (.istore 8, 2) := by decide +kernel
theorem dX3_offerPart_53 : decode cX3_offerPart 53 = .ok (.iload_n 2, 1) := by decide +kernel
theorem dX3_offerPart_54 : decode cX3_offerPart 54 = .ok (.aload_n 3, 1) := by decide +kernel
theorem dX3_offerPart_55 : decode cX3_offerPart 55 = .ok (.getfield 40, 3) := by decide +kernel
theorem dX3_offerPart_58 : decode cX3_offerPart 58 = .ok (.iload 4, 2) := by decide +kernel
theorem dX3_offerPart_60 : decode cX3_offerPart 60 = .ok (.iaload, 1) := by decide +kernel
theorem dX3_offerPart_61 : decode cX3_offerPart 61 = .ok (.isub, 1) := by decide +kernel
theorem dX3_offerPart_62 : decode cX3_offerPart 62 = .ok (.istore 9, 2) := by decide +kernel
theorem dX3_offerPart_64 : decode cX3_offerPart 64 = .ok (.iload 6, 2) := by decide +kernel
theorem dX3_offerPart_66 : decode cX3_offerPart 66 = .ok (.iload 6, 2) := by decide +kernel
theorem dX3_offerPart_68 : decode cX3_offerPart 68 = .ok (.imul, 1) := by decide +kernel
theorem dX3_offerPart_69 : decode cX3_offerPart 69 = .ok (.iload 7, 2) := by decide +kernel
theorem dX3_offerPart_71 : decode cX3_offerPart 71 = .ok (.iload 7, 2) := by decide +kernel
theorem dX3_offerPart_73 : decode cX3_offerPart 73 = .ok (.imul, 1) := by decide +kernel
theorem dX3_offerPart_74 : decode cX3_offerPart 74 = .ok (.iadd, 1) := by decide +kernel
theorem dX3_offerPart_75 : decode cX3_offerPart 75 = .ok (.istore 10, 2) := by decide +kernel
theorem dX3_offerPart_77 : decode cX3_offerPart 77 = .ok (.iload 6, 2) := by decide +kernel
theorem dX3_offerPart_79 : decode cX3_offerPart 79 = .ok (.iload 8, 2) := by decide +kernel
theorem dX3_offerPart_81 : decode cX3_offerPart 81 = .ok (.imul, 1) := by decide +kernel
theorem dX3_offerPart_82 : decode cX3_offerPart 82 = .ok (.iload 7, 2) := by decide +kernel
theorem dX3_offerPart_84 : decode cX3_offerPart 84 = .ok (.iload 9, 2) := by decide +kernel
theorem dX3_offerPart_86 : decode cX3_offerPart 86 = .ok (.imul, 1) := by decide +kernel
theorem dX3_offerPart_87 : decode cX3_offerPart 87 = .ok (.iadd, 1) := by decide +kernel
theorem dX3_offerPart_88 : decode cX3_offerPart 88 = .ok (.istore 11, 2) := by decide +kernel
theorem dX3_offerPart_90 : decode cX3_offerPart 90 = .ok (.iload 11, 2) := by decide +kernel
theorem dX3_offerPart_92 : decode cX3_offerPart 92 = .ok (.ifCond .gt 23, 3) := by decide +kernel
theorem dX3_offerPart_95 : decode cX3_offerPart 95 = .ok (.aload_n 0, 1) := by decide +kernel
theorem dX3_offerPart_96 : decode cX3_offerPart 96 = .ok (.iload 8, 2) := by decide +kernel
theorem dX3_offerPart_98 : decode cX3_offerPart 98 = .ok (.iload 8, 2) := by decide +kernel
theorem dX3_offerPart_100 : decode cX3_offerPart 100 = .ok (.imul, 1) := by decide +kernel
theorem dX3_offerPart_101 : decode cX3_offerPart 101 = .ok (.iload 9, 2) := by decide +kernel
theorem dX3_offerPart_103 : decode cX3_offerPart 103 = .ok (.iload 9, 2) := by decide +kernel
theorem dX3_offerPart_105 : decode cX3_offerPart 105 = .ok (.imul, 1) := by decide +kernel
theorem dX3_offerPart_106 : decode cX3_offerPart 106 = .ok (.iadd, 1) := by decide +kernel
theorem dX3_offerPart_107 : decode cX3_offerPart 107 = .ok (.i2l, 1) := by decide +kernel
theorem dX3_offerPart_108 : decode cX3_offerPart 108 = .ok (.lconst 1, 1) := by decide +kernel
theorem dX3_offerPart_109 : decode cX3_offerPart 109 = .ok (.invokevirtual 43, 3) := by decide +kernel
theorem dX3_offerPart_112 : decode cX3_offerPart 112 = .ok (.goto 65, 3) := by decide +kernel
theorem dX3_offerPart_115 : decode cX3_offerPart 115 = .ok (.iload 11, 2) := by decide +kernel
theorem dX3_offerPart_117 : decode cX3_offerPart 117 = .ok (.iload 10, 2) := by decide +kernel
theorem dX3_offerPart_119 : decode cX3_offerPart 119 = .ok (.if_icmp .lt 35, 3) := by decide +kernel
theorem dX3_offerPart_122 : decode cX3_offerPart 122 = .ok (.aload_n 0, 1) := by decide +kernel
theorem dX3_offerPart_123 : decode cX3_offerPart 123 = .ok (.iload 8, 2) := by decide +kernel
theorem dX3_offerPart_125 : decode cX3_offerPart 125 = .ok (.iload 6, 2) := by decide +kernel
theorem dX3_offerPart_127 : decode cX3_offerPart 127 = .ok (.isub, 1) := by decide +kernel
theorem dX3_offerPart_128 : decode cX3_offerPart 128 = .ok (.iload 8, 2) := by decide +kernel
theorem dX3_offerPart_130 : decode cX3_offerPart 130 = .ok (.iload 6, 2) := by decide +kernel
theorem dX3_offerPart_132 : decode cX3_offerPart 132 = .ok (.isub, 1) := by decide +kernel
theorem dX3_offerPart_133 : decode cX3_offerPart 133 = .ok (.imul, 1) := by decide +kernel
theorem dX3_offerPart_134 : decode cX3_offerPart 134 = .ok (.iload 9, 2) := by decide +kernel
theorem dX3_offerPart_136 : decode cX3_offerPart 136 = .ok (.iload 7, 2) := by decide +kernel
theorem dX3_offerPart_138 : decode cX3_offerPart 138 = .ok (.isub, 1) := by decide +kernel
theorem dX3_offerPart_139 : decode cX3_offerPart 139 = .ok (.iload 9, 2) := by decide +kernel
theorem dX3_offerPart_141 : decode cX3_offerPart 141 = .ok (.iload 7, 2) := by decide +kernel
theorem dX3_offerPart_143 : decode cX3_offerPart 143 = .ok (.isub, 1) := by decide +kernel
theorem dX3_offerPart_144 : decode cX3_offerPart 144 = .ok (.imul, 1) := by decide +kernel
theorem dX3_offerPart_145 : decode cX3_offerPart 145 = .ok (.iadd, 1) := by decide +kernel
theorem dX3_offerPart_146 : decode cX3_offerPart 146 = .ok (.i2l, 1) := by decide +kernel
theorem dX3_offerPart_147 : decode cX3_offerPart 147 = .ok (.lconst 1, 1) := by decide +kernel
theorem dX3_offerPart_148 : decode cX3_offerPart 148 = .ok (.invokevirtual 43, 3) := by decide +kernel
theorem dX3_offerPart_151 : decode cX3_offerPart 151 = .ok (.goto 26, 3) := by decide +kernel
theorem dX3_offerPart_154 : decode cX3_offerPart 154 = .ok (.aload_n 3, 1) := by decide +kernel
theorem dX3_offerPart_155 : decode cX3_offerPart 155 = .ok (.iload 4, 2) := by decide +kernel
theorem dX3_offerPart_157 : decode cX3_offerPart 157 = .ok (.iload_n 1, 1) := by decide +kernel
theorem dX3_offerPart_158 : decode cX3_offerPart 158 = .ok (.iload_n 2, 1) := by decide +kernel
theorem dX3_offerPart_159 : decode cX3_offerPart 159 = .ok (.invokevirtual 46, 3) := by decide +kernel
theorem dX3_offerPart_162 : decode cX3_offerPart 162 = .ok (.i2l, 1) := by decide +kernel
theorem dX3_offerPart_163 : decode cX3_offerPart 163 = .ok (.lstore 12, 2) := by decide +kernel
theorem dX3_offerPart_165 : decode cX3_offerPart 165 = .ok (.aload_n 0, 1) := by decide +kernel
theorem dX3_offerPart_166 : decode cX3_offerPart 166 = .ok (.lload 12, 2) := by decide +kernel
theorem dX3_offerPart_168 : decode cX3_offerPart 168 = .ok (.lload 12, 2) := by decide +kernel
theorem dX3_offerPart_170 : decode cX3_offerPart 170 = .ok (.lmul, 1) := by decide +kernel
theorem dX3_offerPart_171 : decode cX3_offerPart 171 = .ok (.iload 10, 2) := by decide +kernel
theorem dX3_offerPart_173 : decode cX3_offerPart 173 = .ok (.i2l, 1) := by decide +kernel
theorem dX3_offerPart_174 : decode cX3_offerPart 174 = .ok (.invokevirtual 43, 3) := by decide +kernel
theorem dX3_offerPart_177 : decode cX3_offerPart 177 = .ok (.return_, 1) := by decide +kernel
theorem dX3_between_0 : decode cX3_between 0 = .ok (.aload_n 1, 1) := by decide +kernel
theorem dX3_between_1 : decode cX3_between 1 = .ok (.aload_n 2, 1) := by decide +kernel
theorem dX3_between_2 : decode cX3_between 2 = .ok (.invokevirtual 50, 3) := by decide +kernel
theorem dX3_between_5 : decode cX3_between 5 = .ok (.ifCond .eq 10, 3) := by decide +kernel
theorem dX3_between_8 : decode cX3_between 8 = .ok (.aload_n 0, 1) := by decide +kernel
theorem dX3_between_9 : decode cX3_between 9 = .ok (.lconst 0, 1) := by decide +kernel
theorem dX3_between_10 : decode cX3_between 10 = .ok (.lconst 1, 1) := by decide +kernel
theorem dX3_between_11 : decode cX3_between 11 = .ok (.invokevirtual 16, 3) := by decide +kernel
theorem dX3_between_14 : decode cX3_between 14 = .ok (.return_, 1) := by decide +kernel
theorem dX3_between_15 : decode cX3_between 15 = .ok (.aload_n 0, 1) := by decide +kernel
theorem dX3_between_16 : decode cX3_between 16 = .ok (.invokevirtual 54, 3) := by decide +kernel
theorem dX3_between_19 : decode cX3_between 19 = .ok (.iconst 0, 1) := by decide +kernel
theorem dX3_between_20 : decode cX3_between 20 = .ok (.istore_n 3, 1) := by decide +kernel
theorem dX3_between_21 : decode cX3_between 21 = .ok (.iload_n 3, 1) := by decide +kernel
theorem dX3_between_22 : decode cX3_between 22 = .ok (.aload_n 1, 1) := by decide +kernel
theorem dX3_between_23 : decode cX3_between 23 = .ok (.getfield 57, 3) := by decide +kernel
theorem dX3_between_26 : decode cX3_between 26 = .ok (.if_icmp .ge 26, 3) := by decide +kernel
theorem dX3_between_29 : decode cX3_between 29 = .ok (.aload_n 0, 1) := by decide +kernel
theorem dX3_between_30 : decode cX3_between 30 = .ok (.aload_n 1, 1) := by decide +kernel
theorem dX3_between_31 : decode cX3_between 31 = .ok (.getfield 36, 3) := by decide +kernel
theorem dX3_between_34 : decode cX3_between 34 = .ok (.iload_n 3, 1) := by decide +kernel
theorem dX3_between_35 : decode cX3_between 35 = .ok (.iaload, 1) := by decide +kernel
theorem dX3_between_36 : decode cX3_between 36 = .ok (.aload_n 1, 1) := by decide +kernel
theorem dX3_between_37 : decode cX3_between 37 = .ok (.getfield 40, 3) := by decide +kernel
theorem dX3_between_40 : decode cX3_between 40 = .ok (.iload_n 3, 1) := by decide +kernel
theorem dX3_between_41 : decode cX3_between 41 = .ok (.iaload, 1) := by decide +kernel
theorem dX3_between_42 : decode cX3_between 42 = .ok (.aload_n 2, 1) := by decide +kernel
theorem dX3_between_43 : decode cX3_between 43 = .ok (.invokevirtual 61, 3) := by decide +kernel
theorem dX3_between_46 : decode cX3_between 46 = .ok (.iinc 3 1, 3) := by decide +kernel
theorem dX3_between_49 : decode cX3_between 49 = .ok (.goto (-28), 3) := by decide +kernel
theorem dX3_between_52 : decode cX3_between 52 = .ok (.iconst 0, 1) := by decide +kernel
theorem dX3_between_53 : decode cX3_between 53 = .ok (.istore_n 3, 1) := by decide +kernel
theorem dX3_between_54 : decode cX3_between 54 = .ok (.iload_n 3, 1) := by decide +kernel
theorem dX3_between_55 : decode cX3_between 55 = .ok (.aload_n 2, 1) := by decide +kernel
theorem dX3_between_56 : decode cX3_between 56 = .ok (.getfield 57, 3) := by decide +kernel
theorem dX3_between_59 : decode cX3_between 59 = .ok (.if_icmp .ge 26, 3) := by decide +kernel
theorem dX3_between_62 : decode cX3_between 62 = .ok (.aload_n 0, 1) := by decide +kernel
theorem dX3_between_63 : decode cX3_between 63 = .ok (.aload_n 2, 1) := by decide +kernel
theorem dX3_between_64 : decode cX3_between 64 = .ok (.getfield 36, 3) := by decide +kernel
theorem dX3_between_67 : decode cX3_between 67 = .ok (.iload_n 3, 1) := by decide +kernel
theorem dX3_between_68 : decode cX3_between 68 = .ok (.iaload, 1) := by decide +kernel
theorem dX3_between_69 : decode cX3_between 69 = .ok (.aload_n 2, 1) := by decide +kernel
theorem dX3_between_70 : decode cX3_between 70 = .ok (.getfield 40, 3) := by decide +kernel
theorem dX3_between_73 : decode cX3_between 73 = .ok (.iload_n 3, 1) := by decide +kernel
theorem dX3_between_74 : decode cX3_between 74 = .ok (.iaload, 1) := by decide +kernel
theorem dX3_between_75 : decode cX3_between 75 = .ok (.aload_n 1, 1) := by decide +kernel
theorem dX3_between_76 : decode cX3_between 76 = .ok (.invokevirtual 61, 3) := by decide +kernel
theorem dX3_between_79 : decode cX3_between 79 = .ok (.iinc 3 1, 3) := by decide +kernel
theorem dX3_between_82 : decode cX3_between 82 = .ok (.goto (-28), 3) := by decide +kernel
theorem dX3_between_85 : decode cX3_between 85 = .ok (.return_, 1) := by decide +kernel
theorem dX3_reduced_0 : decode cX3_reduced 0 = .ok (.aload_n 0, 1) := by decide +kernel
theorem dX3_reduced_1 : decode cX3_reduced 1 = .ok (.getfield 7, 3) := by decide +kernel
theorem dX3_reduced_4 : decode cX3_reduced 4 = .ok (.lstore_n 2, 1) := by decide +kernel
theorem dX3_reduced_5 : decode cX3_reduced 5 = .ok (.aload_n 0, 1) := by decide +kernel
theorem dX3_reduced_6 : decode cX3_reduced 6 = .ok (.getfield 13, 3) := by decide +kernel
theorem dX3_reduced_9 : decode cX3_reduced 9 = .ok (.lstore 4, 2) := by decide +kernel
theorem dX3_reduced_11 : decode cX3_reduced 11 = .ok (.iconst 0, 1) := by decide +kernel
theorem dX3_reduced_12 : decode cX3_reduced 12 = .ok (.istore 6, 2) := by decide +kernel
theorem dX3_reduced_14 : decode cX3_reduced 14 = .ok (.iload 6, 2) := by decide +kernel
theorem dX3_reduced_16 : decode cX3_reduced 16 = .ok (.sipush 200, 3) := by decide +kernel
theorem dX3_reduced_19 : decode cX3_reduced 19 = .ok (.if_icmp .ge 29, 3) := by decide +kernel
theorem dX3_reduced_22 : decode cX3_reduced 22 = .ok (.lload 4, 2) := by decide +kernel
theorem dX3_reduced_24 : decode cX3_reduced 24 = .ok (.lconst 0, 1) := by decide +kernel
theorem dX3_reduced_25 : decode cX3_reduced 25 = .ok (.lcmp, 1) := by decide +kernel
theorem dX3_reduced_26 : decode cX3_reduced 26 = .ok (.ifCond .eq 22, 3) := by decide +kernel
theorem dX3_reduced_29 : decode cX3_reduced 29 = .ok (.lload_n 2, 1) := by decide +kernel
theorem dX3_reduced_30 : decode cX3_reduced 30 = .ok (.lload 4, 2) := by decide +kernel
theorem dX3_reduced_32 : decode cX3_reduced 32 = .ok (.lrem, 1) := by decide +kernel
theorem dX3_reduced_33 : decode cX3_reduced 33 = .ok (.lstore 7, 2) := by decide +kernel
theorem dX3_reduced_35 : decode cX3_reduced 35 = .ok (.lload 4, 2) := by decide +kernel
theorem dX3_reduced_37 : decode cX3_reduced 37 = .ok (.lstore_n 2, 1) := by decide +kernel
theorem dX3_reduced_38 : decode cX3_reduced 38 = .ok (.lload 7, 2) := by decide +kernel
theorem dX3_reduced_40 : decode cX3_reduced 40 = .ok (.lstore 4, 2) := by decide +kernel
theorem dX3_reduced_42 : decode cX3_reduced 42 = .ok (.iinc 6 1, 3) := by decide +kernel
theorem dX3_reduced_45 : decode cX3_reduced 45 = .ok (.goto (-31), 3) := by decide +kernel
theorem dX3_reduced_48 : decode cX3_reduced 48 = .ok (.lload_n 2, 1) := by decide +kernel
theorem dX3_reduced_49 : decode cX3_reduced 49 = .ok (.lconst 0, 1) := by decide +kernel
theorem dX3_reduced_50 : decode cX3_reduced 50 = .ok (.lcmp, 1) := by decide +kernel
theorem dX3_reduced_51 : decode cX3_reduced 51 = .ok (.ifCond .ne 13, 3) := by decide +kernel
theorem dX3_reduced_54 : decode cX3_reduced 54 = .ok (.iload_n 1, 1) := by decide +kernel
theorem dX3_reduced_55 : decode cX3_reduced 55 = .ok (.ifCond .ne 7, 3) := by decide +kernel
theorem dX3_reduced_58 : decode cX3_reduced 58 = .ok (.lconst 0, 1) := by decide +kernel
theorem dX3_reduced_59 : decode cX3_reduced 59 = .ok (.goto 4, 3) := by decide +kernel
theorem dX3_reduced_62 : decode cX3_reduced 62 = .ok (.lconst 1, 1) := by decide +kernel
theorem dX3_reduced_63 : decode cX3_reduced 63 = .ok (.lreturn, 1) := by decide +kernel
theorem dX3_reduced_64 : decode cX3_reduced 64 = .ok (.iload_n 1, 1) := by decide +kernel
theorem dX3_reduced_65 : decode cX3_reduced 65 = .ok (.ifCond .ne 10, 3) := by decide +kernel
theorem dX3_reduced_68 : decode cX3_reduced 68 = .ok (.aload_n 0, 1) := by decide +kernel
theorem dX3_reduced_69 : decode cX3_reduced 69 = .ok (.getfield 7, 3) := by decide +kernel
theorem dX3_reduced_72 : decode cX3_reduced 72 = .ok (.goto 7, 3) := by decide +kernel
theorem dX3_reduced_75 : decode cX3_reduced 75 = .ok (.aload_n 0, 1) := by decide +kernel
theorem dX3_reduced_76 : decode cX3_reduced 76 = .ok (.getfield 13, 3) := by decide +kernel
theorem dX3_reduced_79 : decode cX3_reduced 79 = .ok (.lload_n 2, 1) := by decide +kernel
theorem dX3_reduced_80 : decode cX3_reduced 80 = .ok (.ldiv, 1) := by decide +kernel
theorem dX3_reduced_81 : decode cX3_reduced 81 = .ok (.lreturn, 1) := by decide +kernel
theorem dX4_init_0 : decode cX4_init 0 = .ok (.aload_n 0, 1) := by decide +kernel
theorem dX4_init_1 : decode cX4_init 1 = .ok (.invokespecial 3, 3) := by decide +kernel
theorem dX4_init_4 : decode cX4_init 4 = .ok (.aload_n 0, 1) := by decide +kernel
theorem dX4_init_5 : decode cX4_init 5 = .ok (.new 9, 3) := by decide +kernel
theorem dX4_init_8 : decode cX4_init 8 = .ok (.dup, 1) := by decide +kernel
theorem dX4_init_9 : decode cX4_init 9 = .ok (.bipush 40, 2) := by decide +kernel
theorem dX4_init_11 : decode cX4_init 11 = .ok (.iconst 0, 1) := by decide +kernel
theorem dX4_init_12 : decode cX4_init 12 = .ok (.invokespecial 11, 3) := by decide +kernel
theorem dX4_init_15 : decode cX4_init 15 = .ok (.putfield 14, 3) := by decide +kernel
theorem dX4_init_18 : decode cX4_init 18 = .ok (.aload_n 0, 1) := by decide +kernel
theorem dX4_init_19 : decode cX4_init 19 = .ok (.new 9, 3) := by decide +kernel
theorem dX4_init_22 : decode cX4_init 22 = .ok (.dup, 1) := by decide +kernel
theorem dX4_init_23 : decode cX4_init 23 = .ok (.iconst 3, 1) := by decide +kernel
theorem dX4_init_24 : decode cX4_init 24 = .ok (.iconst 1, 1) := by decide +kernel
theorem dX4_init_25 : decode cX4_init 25 = .ok (.invokespecial 11, 3) := by decide +kernel
theorem dX4_init_28 : decode cX4_init 28 = .ok (.putfield 20, 3) := by decide +kernel
theorem dX4_init_31 : decode cX4_init 31 = .ok (.aload_n 0, 1) := by decide +kernel
theorem dX4_init_32 : decode cX4_init 32 = .ok (.new 9, 3) := by decide +kernel
theorem dX4_init_35 : decode cX4_init 35 = .ok (.dup, 1) := by decide +kernel
theorem dX4_init_36 : decode cX4_init 36 = .ok (.iconst 2, 1) := by decide +kernel
theorem dX4_init_37 : decode cX4_init 37 = .ok (.iconst 0, 1) := by decide +kernel
theorem dX4_init_38 : decode cX4_init 38 = .ok (.invokespecial 11, 3) := by decide +kernel
theorem dX4_init_41 : decode cX4_init 41 = .ok (.putfield 23, 3) := by decide +kernel
theorem dX4_init_44 : decode cX4_init 44 = .ok (.aload_n 0, 1) := by decide +kernel
theorem dX4_init_45 : decode cX4_init 45 = .ok (.new 26, 3) := by decide +kernel
theorem dX4_init_48 : decode cX4_init 48 = .ok (.dup, 1) := by decide +kernel
theorem dX4_init_49 : decode cX4_init 49 = .ok (.invokespecial 28, 3) := by decide +kernel
theorem dX4_init_52 : decode cX4_init 52 = .ok (.putfield 29, 3) := by decide +kernel
theorem dX4_init_55 : decode cX4_init 55 = .ok (.aload_n 0, 1) := by decide +kernel
theorem dX4_init_56 : decode cX4_init 56 = .ok (.new 26, 3) := by decide +kernel
theorem dX4_init_59 : decode cX4_init 59 = .ok (.dup, 1) := by decide +kernel
theorem dX4_init_60 : decode cX4_init 60 = .ok (.invokespecial 28, 3) := by decide +kernel
theorem dX4_init_63 : decode cX4_init 63 = .ok (.putfield 33, 3) := by decide +kernel
theorem dX4_init_66 : decode cX4_init 66 = .ok (.aload_n 0, 1) := by decide +kernel
theorem dX4_init_67 : decode cX4_init 67 = .ok (.bipush 40, 2) := by decide +kernel
theorem dX4_init_69 : decode cX4_init 69 = .ok (.newarray .int, 2) := by decide +kernel
theorem dX4_init_71 : decode cX4_init 71 = .ok (.putfield 36, 3) := by decide +kernel
theorem dX4_init_74 : decode cX4_init 74 = .ok (.return_, 1) := by decide +kernel
theorem dX4_cornerThatGoes_0 : decode cX4_cornerThatGoes 0 = .ok (.aload_n 2, 1) := by decide +kernel
theorem dX4_cornerThatGoes_1 : decode cX4_cornerThatGoes 1 = .ok (.getfield 40, 3) := by decide +kernel
theorem dX4_cornerThatGoes_4 : decode cX4_cornerThatGoes 4 = .ok (.getfield 46, 3) := by decide +kernel
theorem dX4_cornerThatGoes_7 : decode cX4_cornerThatGoes 7 = .ok (.astore 4, 2) := by decide +kernel
theorem dX4_cornerThatGoes_9 : decode cX4_cornerThatGoes 9 = .ok (.aload 4, 2) := by decide +kernel
theorem dX4_cornerThatGoes_11 : decode cX4_cornerThatGoes 11 = .ok (.ifnull 20, 3) := by decide +kernel
theorem dX4_cornerThatGoes_14 : decode cX4_cornerThatGoes 14 = .ok (.aload 4, 2) := by decide +kernel
theorem dX4_cornerThatGoes_16 : decode cX4_cornerThatGoes 16 = .ok (.getfield 51, 3) := by decide +kernel
theorem dX4_cornerThatGoes_19 : decode cX4_cornerThatGoes 19 = .ok (.ifCond .eq 14, 3) := by decide +kernel
theorem dX4_cornerThatGoes_22 : decode cX4_cornerThatGoes 22 = .ok (.aload 4, 2) := by decide +kernel
theorem dX4_cornerThatGoes_24 : decode cX4_cornerThatGoes 24 = .ok (.getfield 55, 3) := by decide +kernel
theorem dX4_cornerThatGoes_27 : decode cX4_cornerThatGoes 27 = .ok (.iconst 3, 1) := by decide +kernel
theorem dX4_cornerThatGoes_28 : decode cX4_cornerThatGoes 28 = .ok (.if_icmp .gt 5, 3) := by decide +kernel
theorem dX4_cornerThatGoes_31 : decode cX4_cornerThatGoes 31 = .ok (.iconst (-1), 1) := by decide +kernel
theorem dX4_cornerThatGoes_32 : decode cX4_cornerThatGoes 32 = .ok (.ireturn, 1) := by decide +kernel
theorem dX4_cornerThatGoes_33 : decode cX4_cornerThatGoes 33 = .ok (.iconst 0, 1) := by decide +kernel
theorem dX4_cornerThatGoes_34 : decode cX4_cornerThatGoes 34 = .ok (.istore 5, 2) := by decide +kernel
theorem dX4_cornerThatGoes_36 : decode cX4_cornerThatGoes 36 = .ok (.iload 5, 2) := by decide +kernel
theorem dX4_cornerThatGoes_38 : decode cX4_cornerThatGoes 38 = .ok (.aload 4, 2) := by decide +kernel
theorem dX4_cornerThatGoes_40 : decode cX4_cornerThatGoes 40 = .ok (.getfield 55, 3) := by decide +kernel
theorem dX4_cornerThatGoes_43 : decode cX4_cornerThatGoes 43 = .ok (.if_icmp .ge 37, 3) := by decide +kernel
theorem dX4_cornerThatGoes_46 : decode cX4_cornerThatGoes 46 = .ok (.aload_n 0, 1) := by decide +kernel
theorem dX4_cornerThatGoes_47 : decode cX4_cornerThatGoes 47 = .ok (.getfield 36, 3) := by decide +kernel
theorem dX4_cornerThatGoes_50 : decode cX4_cornerThatGoes 50 = .ok (.iload 5, 2) := by decide +kernel
theorem dX4_cornerThatGoes_52 : decode cX4_cornerThatGoes 52 = .ok (.aload 4, 2) := by decide +kernel
theorem dX4_cornerThatGoes_54 : decode cX4_cornerThatGoes 54 = .ok (.iload 5, 2) := by decide +kernel
theorem dX4_cornerThatGoes_56 : decode cX4_cornerThatGoes 56 = .ok (.invokevirtual 59, 3) := by decide +kernel
theorem dX4_cornerThatGoes_59 : decode cX4_cornerThatGoes 59 = .ok (.ifCond .eq 7, 3) := by decide +kernel
theorem dX4_cornerThatGoes_62 : decode cX4_cornerThatGoes 62 = .ok (.iconst (-1), 1) := by decide +kernel
theorem dX4_cornerThatGoes_63 : decode cX4_cornerThatGoes 63 = .ok (.goto 10, 3) := by decide +kernel
theorem dX4_cornerThatGoes_66 : decode cX4_cornerThatGoes 66 = .ok (.aload 4, 2) := by decide +kernel
theorem dX4_cornerThatGoes_68 : decode cX4_cornerThatGoes 68 = .ok (.iload 5, 2) := by decide +kernel
theorem dX4_cornerThatGoes_70 : decode cX4_cornerThatGoes 70 = .ok (.invokevirtual 63, 3) := by decide +kernel
theorem dX4_cornerThatGoes_73 : decode cX4_cornerThatGoes 73 = .ok (.iastore, 1) := by decide +kernel
theorem dX4_cornerThatGoes_74 : decode cX4_cornerThatGoes 74 = .ok (.iinc 5 1, 3) := by decide +kernel
theorem dX4_cornerThatGoes_77 : decode cX4_cornerThatGoes 77 = .ok (.goto (-41), 3) := by decide +kernel
theorem dX4_cornerThatGoes_80 : decode cX4_cornerThatGoes 80 = .ok (.iconst 0, 1) := by decide +kernel
theorem dX4_cornerThatGoes_81 : decode cX4_cornerThatGoes 81 = .ok (.istore 5, 2) := by decide +kernel
theorem dX4_cornerThatGoes_83 : decode cX4_cornerThatGoes 83 = .ok (.iload 5, 2) := by decide +kernel
theorem dX4_cornerThatGoes_85 : decode cX4_cornerThatGoes 85 = .ok (.aload 4, 2) := by decide +kernel
theorem dX4_cornerThatGoes_87 : decode cX4_cornerThatGoes 87 = .ok (.getfield 55, 3) := by decide +kernel
theorem dX4_cornerThatGoes_90 : decode cX4_cornerThatGoes 90 = .ok (.if_icmp .ge 94, 3) := by decide +kernel
theorem dX4_cornerThatGoes_93 : decode cX4_cornerThatGoes 93 = .ok (.aload_n 0, 1) := by decide +kernel
theorem dX4_cornerThatGoes_94 : decode cX4_cornerThatGoes 94 = .ok (.aload 4, 2) := by decide +kernel
theorem dX4_cornerThatGoes_96 : decode cX4_cornerThatGoes 96 = .ok (.getfield 55, 3) := by decide +kernel
theorem dX4_cornerThatGoes_99 : decode cX4_cornerThatGoes 99 = .ok (.iload_n 3, 1) := by decide +kernel
theorem dX4_cornerThatGoes_100 : decode cX4_cornerThatGoes 100 = .ok (.invokevirtual 67, 3) := by decide +kernel
theorem dX4_cornerThatGoes_103 : decode cX4_cornerThatGoes 103 = .ok (.istore 6, 2) := by decide +kernel
theorem dX4_cornerThatGoes_105 : decode cX4_cornerThatGoes 105 = .ok (.iload 6, 2) := by decide +kernel
theorem dX4_cornerThatGoes_107 : decode cX4_cornerThatGoes 107 = .ok (.iconst (-1), 1) := by decide +kernel
theorem dX4_cornerThatGoes_108 : decode cX4_cornerThatGoes 108 = .ok (.if_icmp .ne 5, 3) := by decide +kernel
theorem dX4_cornerThatGoes_111 : decode cX4_cornerThatGoes 111 = .ok (.iconst (-1), 1) := by decide +kernel
theorem dX4_cornerThatGoes_112 : decode cX4_cornerThatGoes 112 = .ok (.ireturn, 1) := by decide +kernel
theorem dX4_cornerThatGoes_113 : decode cX4_cornerThatGoes 113 = .ok (.aload_n 0, 1) := by decide +kernel
theorem dX4_cornerThatGoes_114 : decode cX4_cornerThatGoes 114 = .ok (.getfield 14, 3) := by decide +kernel
theorem dX4_cornerThatGoes_117 : decode cX4_cornerThatGoes 117 = .ok (.aload 4, 2) := by decide +kernel
theorem dX4_cornerThatGoes_119 : decode cX4_cornerThatGoes 119 = .ok (.invokevirtual 71, 3) := by decide +kernel
theorem dX4_cornerThatGoes_122 : decode cX4_cornerThatGoes 122 = .ok (.aload_n 0, 1) := by decide +kernel
theorem dX4_cornerThatGoes_123 : decode cX4_cornerThatGoes 123 = .ok (.getfield 14, 3) := by decide +kernel
theorem dX4_cornerThatGoes_126 : decode cX4_cornerThatGoes 126 = .ok (.iload 6, 2) := by decide +kernel
theorem dX4_cornerThatGoes_128 : decode cX4_cornerThatGoes 128 = .ok (.invokevirtual 75, 3) := by decide +kernel
theorem dX4_cornerThatGoes_131 : decode cX4_cornerThatGoes 131 = .ok (.aload_n 0, 1) := by decide +kernel
theorem dX4_cornerThatGoes_132 : decode cX4_cornerThatGoes 132 = .ok (.aload_n 1, 1) := by decide +kernel
theorem dX4_cornerThatGoes_133 : decode cX4_cornerThatGoes 133 = .ok (.aload_n 2, 1) := by decide +kernel
theorem dX4_cornerThatGoes_134 : decode cX4_cornerThatGoes 134 = .ok (.aload 4, 2) := by decide +kernel
theorem dX4_cornerThatGoes_136 : decode cX4_cornerThatGoes 136 = .ok (.getfield 79, 3) := by decide +kernel
theorem dX4_cornerThatGoes_139 : decode cX4_cornerThatGoes 139 = .ok (.iload 6, 2) := by decide +kernel
theorem dX4_cornerThatGoes_141 : decode cX4_cornerThatGoes 141 = .ok (.iaload, 1) := by decide +kernel
theorem dX4_cornerThatGoes_142 : decode cX4_cornerThatGoes 142 = .ok (.aload 4, 2) := by decide +kernel
theorem dX4_cornerThatGoes_144 : decode cX4_cornerThatGoes 144 = .ok (.getfield 82, 3) := by decide +kernel
theorem dX4_cornerThatGoes_147 : decode cX4_cornerThatGoes 147 = .ok (.iload 6, 2) := by decide +kernel
theorem dX4_cornerThatGoes_149 : decode cX4_cornerThatGoes 149 = .ok (.iaload, 1) := by decide +kernel
theorem dX4_cornerThatGoes_150 : decode cX4_cornerThatGoes 150 = .ok (.invokevirtual 85, 3) := by decide +kernel
theorem dX4_cornerThatGoes_153 : decode cX4_cornerThatGoes 153 = .ok (.ifCond .eq 17, 3) := by decide +kernel
theorem dX4_cornerThatGoes_156 : decode cX4_cornerThatGoes 156 = .ok (.aload_n 0, 1) := by decide +kernel
theorem dX4_cornerThatGoes_157 : decode cX4_cornerThatGoes 157 = .ok (.aload_n 1, 1) := by decide +kernel
theorem dX4_cornerThatGoes_158 : decode cX4_cornerThatGoes 158 = .ok (.aload_n 2, 1) := by decide +kernel
theorem dX4_cornerThatGoes_159 : decode cX4_cornerThatGoes 159 = .ok (.iload 6, 2) := by decide +kernel
theorem dX4_cornerThatGoes_161 : decode cX4_cornerThatGoes 161 = .ok (.invokevirtual 89, 3) := by decide +kernel
theorem dX4_cornerThatGoes_164 : decode cX4_cornerThatGoes 164 = .ok (.ifCond .eq 6, 3) := by decide +kernel
theorem dX4_cornerThatGoes_167 : decode cX4_cornerThatGoes 167 = .ok (.iload 6, 2) := by decide +kernel
theorem dX4_cornerThatGoes_169 : decode cX4_cornerThatGoes 169 = .ok (.ireturn, 1) := by decide +kernel
theorem dX4_cornerThatGoes_170 : decode cX4_cornerThatGoes 170 = .ok (.aload_n 0, 1) := by decide +kernel
theorem dX4_cornerThatGoes_171 : decode cX4_cornerThatGoes 171 = .ok (.getfield 36, 3) := by decide +kernel
theorem dX4_cornerThatGoes_174 : decode cX4_cornerThatGoes 174 = .ok (.iload 6, 2) := by decide +kernel
theorem dX4_cornerThatGoes_176 : decode cX4_cornerThatGoes 176 = .ok (.iconst (-1), 1) := by decide +kernel
theorem dX4_cornerThatGoes_177 : decode cX4_cornerThatGoes 177 = .ok (.iastore, 1) := by decide +kernel
theorem dX4_cornerThatGoes_178 : decode cX4_cornerThatGoes 178 = .ok (.iinc 5 1, 3) := by decide +kernel
theorem dX4_cornerThatGoes_181 : decode cX4_cornerThatGoes 181 = .ok (.goto (-98), 3) := by decide +kernel
theorem dX4_cornerThatGoes_184 : decode cX4_cornerThatGoes 184 = .ok (.iconst (-1), 1) := by decide +kernel
theorem dX4_cornerThatGoes_185 : decode cX4_cornerThatGoes 185 = .ok (.ireturn, 1) := by decide +kernel
theorem dX4_leastArea_0 : decode cX4_leastArea 0 = .ok (.iconst (-1), 1) := by decide +kernel
theorem dX4_leastArea_1 : decode cX4_leastArea 1 = .ok (.istore_n 3, 1) := by decide +kernel
theorem dX4_leastArea_2 : decode cX4_leastArea 2 = .ok (.iconst 0, 1) := by decide +kernel
theorem dX4_leastArea_3 : decode cX4_leastArea 3 = .ok (.istore 4, 2) := by decide +kernel
theorem dX4_leastArea_5 : decode cX4_leastArea 5 = .ok (.iload 4, 2) := by decide +kernel
theorem dX4_leastArea_7 : decode cX4_leastArea 7 = .ok (.iload_n 1, 1) := by decide +kernel
theorem dX4_leastArea_8 : decode cX4_leastArea 8 = .ok (.if_icmp .ge 54, 3) := by decide +kernel
theorem dX4_leastArea_11 : decode cX4_leastArea 11 = .ok (.aload_n 0, 1) := by decide +kernel
theorem dX4_leastArea_12 : decode cX4_leastArea 12 = .ok (.getfield 36, 3) := by decide +kernel
theorem dX4_leastArea_15 : decode cX4_leastArea 15 = .ok (.iload 4, 2) := by decide +kernel
theorem dX4_leastArea_17 : decode cX4_leastArea 17 = .ok (.iaload, 1) := by decide +kernel
theorem dX4_leastArea_18 : decode cX4_leastArea 18 = .ok (.ifCond .lt 38, 3) := by decide +kernel
theorem dX4_leastArea_21 : decode cX4_leastArea 21 = .ok (.aload_n 0, 1) := by decide +kernel
theorem dX4_leastArea_22 : decode cX4_leastArea 22 = .ok (.getfield 36, 3) := by decide +kernel
theorem dX4_leastArea_25 : decode cX4_leastArea 25 = .ok (.iload 4, 2) := by decide +kernel
theorem dX4_leastArea_27 : decode cX4_leastArea 27 = .ok (.iaload, 1) := by decide +kernel
theorem dX4_leastArea_28 : decode cX4_leastArea 28 = .ok (.iload_n 2, 1) := by decide +kernel
theorem dX4_leastArea_29 : decode cX4_leastArea 29 = .ok (.if_icmp .gt 27, 3) := by decide +kernel
theorem dX4_leastArea_32 : decode cX4_leastArea 32 = .ok (.iload_n 3, 1) := by decide +kernel
theorem dX4_leastArea_33 : decode cX4_leastArea 33 = .ok (.iconst (-1), 1) := by decide +kernel
theorem dX4_leastArea_34 : decode cX4_leastArea 34 = .ok (.if_icmp .eq 19, 3) := by decide +kernel
theorem dX4_leastArea_37 : decode cX4_leastArea 37 = .ok (.aload_n 0, 1) := by decide +kernel
theorem dX4_leastArea_38 : decode cX4_leastArea 38 = .ok (.getfield 36, 3) := by decide +kernel
theorem dX4_leastArea_41 : decode cX4_leastArea 41 = .ok (.iload 4, 2) := by decide +kernel
theorem dX4_leastArea_43 : decode cX4_leastArea 43 = .ok (.iaload, 1) := by decide +kernel
theorem dX4_leastArea_44 : decode cX4_leastArea 44 = .ok (.aload_n 0, 1) := by decide +kernel
theorem dX4_leastArea_45 : decode cX4_leastArea 45 = .ok (.getfield 36, 3) := by decide +kernel
theorem dX4_leastArea_48 : decode cX4_leastArea 48 = .ok (.iload_n 3, 1) := by decide +kernel
theorem dX4_leastArea_49 : decode cX4_leastArea 49 = .ok (.iaload, 1) := by decide +kernel
theorem dX4_leastArea_50 : decode cX4_leastArea 50 = .ok (.if_icmp .ge 6, 3) := by decide +kernel
theorem dX4_leastArea_53 : decode cX4_leastArea 53 = .ok (.iload 4, 2) := by decide +kernel
theorem dX4_leastArea_55 : decode cX4_leastArea 55 = .ok (.istore_n 3, 1) := by decide +kernel
theorem dX4_leastArea_56 : decode cX4_leastArea 56 = .ok (.iinc 4 1, 3) := by decide +kernel
theorem dX4_leastArea_59 : decode cX4_leastArea 59 = .ok (.goto (-54), 3) := by decide +kernel
theorem dX4_leastArea_62 : decode cX4_leastArea 62 = .ok (.iload_n 3, 1) := by decide +kernel
theorem dX4_leastArea_63 : decode cX4_leastArea 63 = .ok (.ireturn, 1) := by decide +kernel
theorem dX4_isBare_0 : decode cX4_isBare 0 = .ok (.iconst 0, 1) := by decide +kernel
theorem dX4_isBare_1 : decode cX4_isBare 1 = .ok (.istore 5, 2) := by decide +kernel
theorem dX4_isBare_3 : decode cX4_isBare 3 = .ok (.iload 5, 2) := by decide +kernel
theorem dX4_isBare_5 : decode cX4_isBare 5 = .ok (.aload_n 1, 1) := by decide +kernel
theorem dX4_isBare_6 : decode cX4_isBare 6 = .ok (.getfield 93, 3) := by decide +kernel
theorem dX4_isBare_9 : decode cX4_isBare 9 = .ok (.if_icmp .ge 45, 3) := by decide +kernel
theorem dX4_isBare_12 : decode cX4_isBare 12 = .ok (.aload_n 1, 1) := by decide +kernel
theorem dX4_isBare_13 : decode cX4_isBare 13 = .ok (.iload 5, 2) := by decide +kernel
theorem dX4_isBare_15 : decode cX4_isBare 15 = .ok (.invokevirtual 98, 3) := by decide +kernel
theorem dX4_isBare_18 : decode cX4_isBare 18 = .ok (.astore 6, 2) := by decide +kernel
theorem dX4_isBare_20 : decode cX4_isBare 20 = .ok (.aload 6, 2) := by decide +kernel
theorem dX4_isBare_22 : decode cX4_isBare 22 = .ok (.ifnull 26, 3) := by decide +kernel
theorem dX4_isBare_25 : decode cX4_isBare 25 = .ok (.aload_n 1, 1) := by decide +kernel
theorem dX4_isBare_26 : decode cX4_isBare 26 = .ok (.iload 5, 2) := by decide +kernel
theorem dX4_isBare_28 : decode cX4_isBare 28 = .ok (.invokevirtual 102, 3) := by decide +kernel
theorem dX4_isBare_31 : decode cX4_isBare 31 = .ok (.aload_n 2, 1) := by decide +kernel
theorem dX4_isBare_32 : decode cX4_isBare 32 = .ok (.if_acmp .eq 16, 3) := by decide +kernel
theorem dX4_isBare_35 : decode cX4_isBare 35 = .ok (.aload 6, 2) := by decide +kernel
theorem dX4_isBare_37 : decode cX4_isBare 37 = .ok (.iload_n 3, 1) := by decide +kernel
theorem dX4_isBare_38 : decode cX4_isBare 38 = .ok (.iload 4, 2) := by decide +kernel
theorem dX4_isBare_40 : decode cX4_isBare 40 = .ok (.invokevirtual 106, 3) := by decide +kernel
theorem dX4_isBare_43 : decode cX4_isBare 43 = .ok (.ifCond .eq 5, 3) := by decide +kernel
theorem dX4_isBare_46 : decode cX4_isBare 46 = .ok (.iconst 0, 1) := by decide +kernel
theorem dX4_isBare_47 : decode cX4_isBare 47 = .ok (.ireturn, 1) := by decide +kernel
theorem dX4_isBare_48 : decode cX4_isBare 48 = .ok (.iinc 5 1, 3) := by decide +kernel
theorem dX4_isBare_51 : decode cX4_isBare 51 = .ok (.goto (-48), 3) := by decide +kernel
theorem dX4_isBare_54 : decode cX4_isBare 54 = .ok (.iconst 1, 1) := by decide +kernel
theorem dX4_isBare_55 : decode cX4_isBare 55 = .ok (.ireturn, 1) := by decide +kernel
theorem dX4_allows_0 : decode cX4_allows 0 = .ok (.aload_n 2, 1) := by decide +kernel
theorem dX4_allows_1 : decode cX4_allows 1 = .ok (.getfield 40, 3) := by decide +kernel
theorem dX4_allows_4 : decode cX4_allows 4 = .ok (.getfield 46, 3) := by decide +kernel
theorem dX4_allows_7 : decode cX4_allows 7 = .ok (.astore 4, 2) := by decide +kernel
theorem dX4_allows_9 : decode cX4_allows 9 = .ok (.aload 4, 2) := by decide +kernel
theorem dX4_allows_11 : decode cX4_allows 11 = .ok (.ifnull 13, 3) := by decide +kernel
theorem dX4_allows_14 : decode cX4_allows 14 = .ok (.aload_n 0, 1) := by decide +kernel
theorem dX4_allows_15 : decode cX4_allows 15 = .ok (.getfield 14, 3) := by decide +kernel
theorem dX4_allows_18 : decode cX4_allows 18 = .ok (.invokevirtual 110, 3) := by decide +kernel
theorem dX4_allows_21 : decode cX4_allows 21 = .ok (.ifCond .ne 5, 3) := by decide +kernel
theorem dX4_allows_24 : decode cX4_allows 24 = .ok (.iconst 0, 1) := by decide +kernel
theorem dX4_allows_25 : decode cX4_allows 25 = .ok (.ireturn, 1) := by decide +kernel
theorem dX4_allows_26 : decode cX4_allows 26 = .ok (.aload_n 0, 1) := by decide +kernel
theorem dX4_allows_27 : decode cX4_allows 27 = .ok (.getfield 14, 3) := by decide +kernel
theorem dX4_allows_30 : decode cX4_allows 30 = .ok (.iload_n 3, 1) := by decide +kernel
theorem dX4_allows_31 : decode cX4_allows 31 = .ok (.aload_n 0, 1) := by decide +kernel
theorem dX4_allows_32 : decode cX4_allows 32 = .ok (.getfield 14, 3) := by decide +kernel
theorem dX4_allows_35 : decode cX4_allows 35 = .ok (.getfield 55, 3) := by decide +kernel
theorem dX4_allows_38 : decode cX4_allows 38 = .ok (.if_icmp .ge 7, 3) := by decide +kernel
theorem dX4_allows_41 : decode cX4_allows 41 = .ok (.iload_n 3, 1) := by decide +kernel
theorem dX4_allows_42 : decode cX4_allows 42 = .ok (.goto 4, 3) := by decide +kernel
theorem dX4_allows_45 : decode cX4_allows 45 = .ok (.iconst 0, 1) := by decide +kernel
theorem dX4_allows_46 : decode cX4_allows 46 = .ok (.invokevirtual 114, 3) := by decide +kernel
theorem dX4_allows_49 : decode cX4_allows 49 = .ok (.istore 5, 2) := by decide +kernel
theorem dX4_allows_51 : decode cX4_allows 51 = .ok (.iload_n 3, 1) := by decide +kernel
theorem dX4_allows_52 : decode cX4_allows 52 = .ok (.bipush (-2), 2) := by decide +kernel
theorem dX4_allows_54 : decode cX4_allows 54 = .ok (.if_icmp .ne 8, 3) := by decide +kernel
theorem dX4_allows_57 : decode cX4_allows 57 = .ok (.bipush 6, 2) := by decide +kernel
theorem dX4_allows_59 : decode cX4_allows 59 = .ok (.goto 10, 3) := by decide +kernel
theorem dX4_allows_62 : decode cX4_allows 62 = .ok (.aload_n 2, 1) := by decide +kernel
theorem dX4_allows_63 : decode cX4_allows 63 = .ok (.getfield 40, 3) := by decide +kernel
theorem dX4_allows_66 : decode cX4_allows 66 = .ok (.getfield 117, 3) := by decide +kernel
theorem dX4_allows_69 : decode cX4_allows 69 = .ok (.istore 6, 2) := by decide +kernel
theorem dX4_allows_71 : decode cX4_allows 71 = .ok (.iload_n 3, 1) := by decide +kernel
theorem dX4_allows_72 : decode cX4_allows 72 = .ok (.ifCond .lt 19, 3) := by decide +kernel
theorem dX4_allows_75 : decode cX4_allows 75 = .ok (.aload_n 0, 1) := by decide +kernel
theorem dX4_allows_76 : decode cX4_allows 76 = .ok (.getfield 14, 3) := by decide +kernel
theorem dX4_allows_79 : decode cX4_allows 79 = .ok (.iload 5, 2) := by decide +kernel
theorem dX4_allows_81 : decode cX4_allows 81 = .ok (.iconst 0, 1) := by decide +kernel
theorem dX4_allows_82 : decode cX4_allows 82 = .ok (.invokevirtual 120, 3) := by decide +kernel
theorem dX4_allows_85 : decode cX4_allows 85 = .ok (.ifCond .ne 20, 3) := by decide +kernel
theorem dX4_allows_88 : decode cX4_allows 88 = .ok (.goto 15, 3) := by decide +kernel
theorem dX4_allows_91 : decode cX4_allows 91 = .ok (.aload_n 0, 1) := by decide +kernel
theorem dX4_allows_92 : decode cX4_allows 92 = .ok (.getfield 14, 3) := by decide +kernel
theorem dX4_allows_95 : decode cX4_allows 95 = .ok (.iload 6, 2) := by decide +kernel
theorem dX4_allows_97 : decode cX4_allows 97 = .ok (.invokevirtual 123, 3) := by decide +kernel
theorem dX4_allows_100 : decode cX4_allows 100 = .ok (.ifCond .ne 5, 3) := by decide +kernel
theorem dX4_allows_103 : decode cX4_allows 103 = .ok (.iconst 0, 1) := by decide +kernel
theorem dX4_allows_104 : decode cX4_allows 104 = .ok (.ireturn, 1) := by decide +kernel
theorem dX4_allows_105 : decode cX4_allows 105 = .ok (.aload_n 0, 1) := by decide +kernel
theorem dX4_allows_106 : decode cX4_allows 106 = .ok (.aload 4, 2) := by decide +kernel
theorem dX4_allows_108 : decode cX4_allows 108 = .ok (.iload_n 3, 1) := by decide +kernel
theorem dX4_allows_109 : decode cX4_allows 109 = .ok (.invokevirtual 126, 3) := by decide +kernel
theorem dX4_allows_112 : decode cX4_allows 112 = .ok (.iconst 0, 1) := by decide +kernel
theorem dX4_allows_113 : decode cX4_allows 113 = .ok (.istore 7, 2) := by decide +kernel
theorem dX4_allows_115 : decode cX4_allows 115 = .ok (.iload 7, 2) := by decide +kernel
theorem dX4_allows_117 : decode cX4_allows 117 = .ok (.aload_n 1, 1) := by decide +kernel
theorem dX4_allows_118 : decode cX4_allows 118 = .ok (.getfield 93, 3) := by decide +kernel
theorem dX4_allows_121 : decode cX4_allows 121 = .ok (.if_icmp .ge 72, 3) := by decide +kernel
theorem dX4_allows_124 : decode cX4_allows 124 = .ok (.aload_n 1, 1) := by decide +kernel
theorem dX4_allows_125 : decode cX4_allows 125 = .ok (.iload 7, 2) := by decide +kernel
theorem dX4_allows_127 : decode cX4_allows 127 = .ok (.invokevirtual 98, 3) := by decide +kernel
theorem dX4_allows_130 : decode cX4_allows 130 = .ok (.astore 8, 2) := by decide +kernel
theorem dX4_allows_132 : decode cX4_allows 132 = .ok (.aload 8, 2) := by decide +kernel
theorem dX4_allows_134 : decode cX4_allows 134 = .ok (.ifnull 53, 3) := by decide +kernel
theorem dX4_allows_137 : decode cX4_allows 137 = .ok (.aload_n 1, 1) := by decide +kernel
theorem dX4_allows_138 : decode cX4_allows 138 = .ok (.iload 7, 2) := by decide +kernel
theorem dX4_allows_140 : decode cX4_allows 140 = .ok (.invokevirtual 102, 3) := by decide +kernel
theorem dX4_allows_143 : decode cX4_allows 143 = .ok (.aload_n 2, 1) := by decide +kernel
theorem dX4_allows_144 : decode cX4_allows 144 = .ok (.if_acmp .ne 6, 3) := by decide +kernel
theorem dX4_allows_147 : decode cX4_allows 147 = .ok (.goto 40, 3) := by decide +kernel
theorem dX4_allows_150 : decode cX4_allows 150 = .ok (.aload_n 0, 1) := by decide +kernel
theorem dX4_allows_151 : decode cX4_allows 151 = .ok (.getfield 33, 3) := by decide +kernel
theorem dX4_allows_154 : decode cX4_allows 154 = .ok (.aload 8, 2) := by decide +kernel
theorem dX4_allows_156 : decode cX4_allows 156 = .ok (.invokevirtual 130, 3) := by decide +kernel
theorem dX4_allows_159 : decode cX4_allows 159 = .ok (.aload_n 0, 1) := by decide +kernel
theorem dX4_allows_160 : decode cX4_allows 160 = .ok (.getfield 29, 3) := by decide +kernel
theorem dX4_allows_163 : decode cX4_allows 163 = .ok (.aload_n 0, 1) := by decide +kernel
theorem dX4_allows_164 : decode cX4_allows 164 = .ok (.getfield 33, 3) := by decide +kernel
theorem dX4_allows_167 : decode cX4_allows 167 = .ok (.invokevirtual 133, 3) := by decide +kernel
theorem dX4_allows_170 : decode cX4_allows 170 = .ok (.ifCond .ne 17, 3) := by decide +kernel
theorem dX4_allows_173 : decode cX4_allows 173 = .ok (.aload_n 0, 1) := by decide +kernel
theorem dX4_allows_174 : decode cX4_allows 174 = .ok (.aload 4, 2) := by decide +kernel
theorem dX4_allows_176 : decode cX4_allows 176 = .ok (.aload 8, 2) := by decide +kernel
theorem dX4_allows_178 : decode cX4_allows 178 = .ok (.iload_n 3, 1) := by decide +kernel
theorem dX4_allows_179 : decode cX4_allows 179 = .ok (.invokevirtual 137, 3) := by decide +kernel
theorem dX4_allows_182 : decode cX4_allows 182 = .ok (.ifCond .ne 5, 3) := by decide +kernel
theorem dX4_allows_185 : decode cX4_allows 185 = .ok (.iconst 0, 1) := by decide +kernel
theorem dX4_allows_186 : decode cX4_allows 186 = .ok (.ireturn, 1) := by decide +kernel
theorem dX4_allows_187 : decode cX4_allows 187 = .ok (.iinc 7 1, 3) := by decide +kernel
theorem dX4_allows_190 : decode cX4_allows 190 = .ok (.goto (-75), 3) := by decide +kernel
theorem dX4_allows_193 : decode cX4_allows 193 = .ok (.iconst 1, 1) := by decide +kernel
theorem dX4_allows_194 : decode cX4_allows 194 = .ok (.ireturn, 1) := by decide +kernel
theorem dX4_measureReach_0 : decode cX4_measureReach 0 = .ok (.iload_n 2, 1) := by decide +kernel
theorem dX4_measureReach_1 : decode cX4_measureReach 1 = .ok (.ifCond .lt 77, 3) := by decide +kernel
theorem dX4_measureReach_4 : decode cX4_measureReach 4 = .ok (.aload_n 0, 1) := by decide +kernel
theorem dX4_measureReach_5 : decode cX4_measureReach 5 = .ok (.getfield 29, 3) := by decide +kernel
theorem dX4_measureReach_8 : decode cX4_measureReach 8 = .ok (.aload_n 1, 1) := by decide +kernel
theorem dX4_measureReach_9 : decode cX4_measureReach 9 = .ok (.getfield 79, 3) := by decide +kernel
theorem dX4_measureReach_12 : decode cX4_measureReach 12 = .ok (.iload_n 2, 1) := by decide +kernel
theorem dX4_measureReach_13 : decode cX4_measureReach 13 = .ok (.iaload, 1) := by decide +kernel
theorem dX4_measureReach_14 : decode cX4_measureReach 14 = .ok (.aload_n 1, 1) := by decide +kernel
theorem dX4_measureReach_15 : decode cX4_measureReach 15 = .ok (.getfield 82, 3) := by decide +kernel
theorem dX4_measureReach_18 : decode cX4_measureReach 18 = .ok (.iload_n 2, 1) := by decide +kernel
theorem dX4_measureReach_19 : decode cX4_measureReach 19 = .ok (.iaload, 1) := by decide +kernel
theorem dX4_measureReach_20 : decode cX4_measureReach 20 = .ok (.invokevirtual 141, 3) := by decide +kernel
theorem dX4_measureReach_23 : decode cX4_measureReach 23 = .ok (.aload_n 0, 1) := by decide +kernel
theorem dX4_measureReach_24 : decode cX4_measureReach 24 = .ok (.getfield 29, 3) := by decide +kernel
theorem dX4_measureReach_27 : decode cX4_measureReach 27 = .ok (.aload_n 1, 1) := by decide +kernel
theorem dX4_measureReach_28 : decode cX4_measureReach 28 = .ok (.getfield 79, 3) := by decide +kernel
theorem dX4_measureReach_31 : decode cX4_measureReach 31 = .ok (.aload_n 1, 1) := by decide +kernel
theorem dX4_measureReach_32 : decode cX4_measureReach 32 = .ok (.iload_n 2, 1) := by decide +kernel
theorem dX4_measureReach_33 : decode cX4_measureReach 33 = .ok (.invokevirtual 114, 3) := by decide +kernel
theorem dX4_measureReach_36 : decode cX4_measureReach 36 = .ok (.iaload, 1) := by decide +kernel
theorem dX4_measureReach_37 : decode cX4_measureReach 37 = .ok (.aload_n 1, 1) := by decide +kernel
theorem dX4_measureReach_38 : decode cX4_measureReach 38 = .ok (.getfield 82, 3) := by decide +kernel
theorem dX4_measureReach_41 : decode cX4_measureReach 41 = .ok (.aload_n 1, 1) := by decide +kernel
theorem dX4_measureReach_42 : decode cX4_measureReach 42 = .ok (.iload_n 2, 1) := by decide +kernel
theorem dX4_measureReach_43 : decode cX4_measureReach 43 = .ok (.invokevirtual 114, 3) := by decide +kernel
theorem dX4_measureReach_46 : decode cX4_measureReach 46 = .ok (.iaload, 1) := by decide +kernel
theorem dX4_measureReach_47 : decode cX4_measureReach 47 = .ok (.invokevirtual 145, 3) := by decide +kernel
theorem dX4_measureReach_50 : decode cX4_measureReach 50 = .ok (.aload_n 0, 1) := by decide +kernel
theorem dX4_measureReach_51 : decode cX4_measureReach 51 = .ok (.getfield 29, 3) := by decide +kernel
theorem dX4_measureReach_54 : decode cX4_measureReach 54 = .ok (.aload_n 1, 1) := by decide +kernel
theorem dX4_measureReach_55 : decode cX4_measureReach 55 = .ok (.getfield 79, 3) := by decide +kernel
theorem dX4_measureReach_58 : decode cX4_measureReach 58 = .ok (.aload_n 1, 1) := by decide +kernel
theorem dX4_measureReach_59 : decode cX4_measureReach 59 = .ok (.iload_n 2, 1) := by decide +kernel
theorem dX4_measureReach_60 : decode cX4_measureReach 60 = .ok (.invokevirtual 148, 3) := by decide +kernel
theorem dX4_measureReach_63 : decode cX4_measureReach 63 = .ok (.iaload, 1) := by decide +kernel
theorem dX4_measureReach_64 : decode cX4_measureReach 64 = .ok (.aload_n 1, 1) := by decide +kernel
theorem dX4_measureReach_65 : decode cX4_measureReach 65 = .ok (.getfield 82, 3) := by decide +kernel
theorem dX4_measureReach_68 : decode cX4_measureReach 68 = .ok (.aload_n 1, 1) := by decide +kernel
theorem dX4_measureReach_69 : decode cX4_measureReach 69 = .ok (.iload_n 2, 1) := by decide +kernel
theorem dX4_measureReach_70 : decode cX4_measureReach 70 = .ok (.invokevirtual 148, 3) := by decide +kernel
theorem dX4_measureReach_73 : decode cX4_measureReach 73 = .ok (.iaload, 1) := by decide +kernel
theorem dX4_measureReach_74 : decode cX4_measureReach 74 = .ok (.invokevirtual 145, 3) := by decide +kernel
theorem dX4_measureReach_77 : decode cX4_measureReach 77 = .ok (.return_, 1) := by decide +kernel
theorem dX4_measureReach_78 : decode cX4_measureReach 78 = .ok (.aload_n 0, 1) := by decide +kernel
theorem dX4_measureReach_79 : decode cX4_measureReach 79 = .ok (.getfield 29, 3) := by decide +kernel
theorem dX4_measureReach_82 : decode cX4_measureReach 82 = .ok (.aload_n 1, 1) := by decide +kernel
theorem dX4_measureReach_83 : decode cX4_measureReach 83 = .ok (.invokevirtual 130, 3) := by decide +kernel
theorem dX4_measureReach_86 : decode cX4_measureReach 86 = .ok (.aload_n 0, 1) := by decide +kernel
theorem dX4_measureReach_87 : decode cX4_measureReach 87 = .ok (.getfield 29, 3) := by decide +kernel
theorem dX4_measureReach_90 : decode cX4_measureReach 90 = .ok (.aload_n 0, 1) := by decide +kernel
theorem dX4_measureReach_91 : decode cX4_measureReach 91 = .ok (.getfield 14, 3) := by decide +kernel
theorem dX4_measureReach_94 : decode cX4_measureReach 94 = .ok (.invokevirtual 151, 3) := by decide +kernel
theorem dX4_measureReach_97 : decode cX4_measureReach 97 = .ok (.return_, 1) := by decide +kernel
theorem dX4_isAsBefore_0 : decode cX4_isAsBefore 0 = .ok (.aload_n 1, 1) := by decide +kernel
theorem dX4_isAsBefore_1 : decode cX4_isAsBefore 1 = .ok (.aload_n 2, 1) := by decide +kernel
theorem dX4_isAsBefore_2 : decode cX4_isAsBefore 2 = .ok (.invokevirtual 154, 3) := by decide +kernel
theorem dX4_isAsBefore_5 : decode cX4_isAsBefore 5 = .ok (.aload_n 0, 1) := by decide +kernel
theorem dX4_isAsBefore_6 : decode cX4_isAsBefore 6 = .ok (.getfield 14, 3) := by decide +kernel
theorem dX4_isAsBefore_9 : decode cX4_isAsBefore 9 = .ok (.aload_n 2, 1) := by decide +kernel
theorem dX4_isAsBefore_10 : decode cX4_isAsBefore 10 = .ok (.invokevirtual 154, 3) := by decide +kernel
theorem dX4_isAsBefore_13 : decode cX4_isAsBefore 13 = .ok (.if_icmp .eq 5, 3) := by decide +kernel
theorem dX4_isAsBefore_16 : decode cX4_isAsBefore 16 = .ok (.iconst 0, 1) := by decide +kernel
theorem dX4_isAsBefore_17 : decode cX4_isAsBefore 17 = .ok (.ireturn, 1) := by decide +kernel
theorem dX4_isAsBefore_18 : decode cX4_isAsBefore 18 = .ok (.aload_n 0, 1) := by decide +kernel
theorem dX4_isAsBefore_19 : decode cX4_isAsBefore 19 = .ok (.getfield 14, 3) := by decide +kernel
theorem dX4_isAsBefore_22 : decode cX4_isAsBefore 22 = .ok (.getfield 51, 3) := by decide +kernel
theorem dX4_isAsBefore_25 : decode cX4_isAsBefore 25 = .ok (.ifCond .eq 14, 3) := by decide +kernel
theorem dX4_isAsBefore_28 : decode cX4_isAsBefore 28 = .ok (.aload_n 0, 1) := by decide +kernel
theorem dX4_isAsBefore_29 : decode cX4_isAsBefore 29 = .ok (.aload_n 1, 1) := by decide +kernel
theorem dX4_isAsBefore_30 : decode cX4_isAsBefore 30 = .ok (.aload_n 2, 1) := by decide +kernel
theorem dX4_isAsBefore_31 : decode cX4_isAsBefore 31 = .ok (.invokevirtual 158, 3) := by decide +kernel
theorem dX4_isAsBefore_34 : decode cX4_isAsBefore 34 = .ok (.ifCond .ne 5, 3) := by decide +kernel
theorem dX4_isAsBefore_37 : decode cX4_isAsBefore 37 = .ok (.iconst 0, 1) := by decide +kernel
theorem dX4_isAsBefore_38 : decode cX4_isAsBefore 38 = .ok (.ireturn, 1) := by decide +kernel
theorem dX4_isAsBefore_39 : decode cX4_isAsBefore 39 = .ok (.aload_n 2, 1) := by decide +kernel
theorem dX4_isAsBefore_40 : decode cX4_isAsBefore 40 = .ok (.getfield 51, 3) := by decide +kernel
theorem dX4_isAsBefore_43 : decode cX4_isAsBefore 43 = .ok (.ifCond .eq 21, 3) := by decide +kernel
theorem dX4_isAsBefore_46 : decode cX4_isAsBefore 46 = .ok (.aload_n 2, 1) := by decide +kernel
theorem dX4_isAsBefore_47 : decode cX4_isAsBefore 47 = .ok (.aload_n 1, 1) := by decide +kernel
theorem dX4_isAsBefore_48 : decode cX4_isAsBefore 48 = .ok (.invokestatic 162, 3) := by decide +kernel
theorem dX4_isAsBefore_51 : decode cX4_isAsBefore 51 = .ok (.aload_n 2, 1) := by decide +kernel
theorem dX4_isAsBefore_52 : decode cX4_isAsBefore 52 = .ok (.aload_n 0, 1) := by decide +kernel
theorem dX4_isAsBefore_53 : decode cX4_isAsBefore 53 = .ok (.getfield 14, 3) := by decide +kernel
theorem dX4_isAsBefore_56 : decode cX4_isAsBefore 56 = .ok (.invokestatic 162, 3) := by decide +kernel
theorem dX4_isAsBefore_59 : decode cX4_isAsBefore 59 = .ok (.if_icmp .eq 5, 3) := by decide +kernel
theorem dX4_isAsBefore_62 : decode cX4_isAsBefore 62 = .ok (.iconst 0, 1) := by decide +kernel
theorem dX4_isAsBefore_63 : decode cX4_isAsBefore 63 = .ok (.ireturn, 1) := by decide +kernel
theorem dX4_isAsBefore_64 : decode cX4_isAsBefore 64 = .ok (.aload_n 1, 1) := by decide +kernel
theorem dX4_isAsBefore_65 : decode cX4_isAsBefore 65 = .ok (.getfield 55, 3) := by decide +kernel
theorem dX4_isAsBefore_68 : decode cX4_isAsBefore 68 = .ok (.iconst 1, 1) := by decide +kernel
theorem dX4_isAsBefore_69 : decode cX4_isAsBefore 69 = .ok (.if_icmp .ne 10, 3) := by decide +kernel
theorem dX4_isAsBefore_72 : decode cX4_isAsBefore 72 = .ok (.aload_n 0, 1) := by decide +kernel
theorem dX4_isAsBefore_73 : decode cX4_isAsBefore 73 = .ok (.aload_n 1, 1) := by decide +kernel
theorem dX4_isAsBefore_74 : decode cX4_isAsBefore 74 = .ok (.aload_n 2, 1) := by decide +kernel
theorem dX4_isAsBefore_75 : decode cX4_isAsBefore 75 = .ok (.invokevirtual 165, 3) := by decide +kernel
theorem dX4_isAsBefore_78 : decode cX4_isAsBefore 78 = .ok (.ireturn, 1) := by decide +kernel
theorem dX4_isAsBefore_79 : decode cX4_isAsBefore 79 = .ok (.iload_n 3, 1) := by decide +kernel
theorem dX4_isAsBefore_80 : decode cX4_isAsBefore 80 = .ok (.bipush (-2), 2) := by decide +kernel
theorem dX4_isAsBefore_82 : decode cX4_isAsBefore 82 = .ok (.if_icmp .ne 5, 3) := by decide +kernel
theorem dX4_isAsBefore_85 : decode cX4_isAsBefore 85 = .ok (.iconst 1, 1) := by decide +kernel
theorem dX4_isAsBefore_86 : decode cX4_isAsBefore 86 = .ok (.ireturn, 1) := by decide +kernel
theorem dX4_isAsBefore_87 : decode cX4_isAsBefore 87 = .ok (.iload_n 3, 1) := by decide +kernel
theorem dX4_isAsBefore_88 : decode cX4_isAsBefore 88 = .ok (.iconst (-1), 1) := by decide +kernel
theorem dX4_isAsBefore_89 : decode cX4_isAsBefore 89 = .ok (.if_icmp .ne 20, 3) := by decide +kernel
theorem dX4_isAsBefore_92 : decode cX4_isAsBefore 92 = .ok (.aload_n 0, 1) := by decide +kernel
theorem dX4_isAsBefore_93 : decode cX4_isAsBefore 93 = .ok (.aload_n 1, 1) := by decide +kernel
theorem dX4_isAsBefore_94 : decode cX4_isAsBefore 94 = .ok (.aload_n 2, 1) := by decide +kernel
theorem dX4_isAsBefore_95 : decode cX4_isAsBefore 95 = .ok (.invokevirtual 168, 3) := by decide +kernel
theorem dX4_isAsBefore_98 : decode cX4_isAsBefore 98 = .ok (.ifCond .ne 7, 3) := by decide +kernel
theorem dX4_isAsBefore_101 : decode cX4_isAsBefore 101 = .ok (.iconst 1, 1) := by decide +kernel
theorem dX4_isAsBefore_102 : decode cX4_isAsBefore 102 = .ok (.goto 22, 3) := by decide +kernel
theorem dX4_isAsBefore_105 : decode cX4_isAsBefore 105 = .ok (.iconst 0, 1) := by decide +kernel
theorem dX4_isAsBefore_106 : decode cX4_isAsBefore 106 = .ok (.goto 18, 3) := by decide +kernel
theorem dX4_isAsBefore_109 : decode cX4_isAsBefore 109 = .ok (.aload_n 0, 1) := by decide +kernel
theorem dX4_isAsBefore_110 : decode cX4_isAsBefore 110 = .ok (.aload_n 1, 1) := by decide +kernel
theorem dX4_isAsBefore_111 : decode cX4_isAsBefore 111 = .ok (.aload_n 2, 1) := by decide +kernel
theorem dX4_isAsBefore_112 : decode cX4_isAsBefore 112 = .ok (.iload_n 3, 1) := by decide +kernel
theorem dX4_isAsBefore_113 : decode cX4_isAsBefore 113 = .ok (.invokevirtual 171, 3) := by decide +kernel
theorem dX4_isAsBefore_116 : decode cX4_isAsBefore 116 = .ok (.ifCond .ne 7, 3) := by decide +kernel
theorem dX4_isAsBefore_119 : decode cX4_isAsBefore 119 = .ok (.iconst 1, 1) := by decide +kernel
theorem dX4_isAsBefore_120 : decode cX4_isAsBefore 120 = .ok (.goto 4, 3) := by decide +kernel
theorem dX4_isAsBefore_123 : decode cX4_isAsBefore 123 = .ok (.iconst 0, 1) := by decide +kernel
theorem dX4_isAsBefore_124 : decode cX4_isAsBefore 124 = .ok (.ireturn, 1) := by decide +kernel
theorem dX4_holdsAsBefore_0 : decode cX4_holdsAsBefore 0 = .ok (.iconst 0, 1) := by decide +kernel
theorem dX4_holdsAsBefore_1 : decode cX4_holdsAsBefore 1 = .ok (.istore_n 3, 1) := by decide +kernel
theorem dX4_holdsAsBefore_2 : decode cX4_holdsAsBefore 2 = .ok (.iload_n 3, 1) := by decide +kernel
theorem dX4_holdsAsBefore_3 : decode cX4_holdsAsBefore 3 = .ok (.aload_n 2, 1) := by decide +kernel
theorem dX4_holdsAsBefore_4 : decode cX4_holdsAsBefore 4 = .ok (.getfield 55, 3) := by decide +kernel
theorem dX4_holdsAsBefore_7 : decode cX4_holdsAsBefore 7 = .ok (.if_icmp .ge 71, 3) := by decide +kernel
theorem dX4_holdsAsBefore_10 : decode cX4_holdsAsBefore 10 = .ok (.aload_n 1, 1) := by decide +kernel
theorem dX4_holdsAsBefore_11 : decode cX4_holdsAsBefore 11 = .ok (.aload_n 2, 1) := by decide +kernel
theorem dX4_holdsAsBefore_12 : decode cX4_holdsAsBefore 12 = .ok (.getfield 79, 3) := by decide +kernel
theorem dX4_holdsAsBefore_15 : decode cX4_holdsAsBefore 15 = .ok (.iload_n 3, 1) := by decide +kernel
theorem dX4_holdsAsBefore_16 : decode cX4_holdsAsBefore 16 = .ok (.iaload, 1) := by decide +kernel
theorem dX4_holdsAsBefore_17 : decode cX4_holdsAsBefore 17 = .ok (.aload_n 2, 1) := by decide +kernel
theorem dX4_holdsAsBefore_18 : decode cX4_holdsAsBefore 18 = .ok (.getfield 82, 3) := by decide +kernel
theorem dX4_holdsAsBefore_21 : decode cX4_holdsAsBefore 21 = .ok (.iload_n 3, 1) := by decide +kernel
theorem dX4_holdsAsBefore_22 : decode cX4_holdsAsBefore 22 = .ok (.iaload, 1) := by decide +kernel
theorem dX4_holdsAsBefore_23 : decode cX4_holdsAsBefore 23 = .ok (.invokevirtual 174, 3) := by decide +kernel
theorem dX4_holdsAsBefore_26 : decode cX4_holdsAsBefore 26 = .ok (.iconst 1, 1) := by decide +kernel
theorem dX4_holdsAsBefore_27 : decode cX4_holdsAsBefore 27 = .ok (.if_icmp .ne 7, 3) := by decide +kernel
theorem dX4_holdsAsBefore_30 : decode cX4_holdsAsBefore 30 = .ok (.iconst 1, 1) := by decide +kernel
theorem dX4_holdsAsBefore_31 : decode cX4_holdsAsBefore 31 = .ok (.goto 4, 3) := by decide +kernel
theorem dX4_holdsAsBefore_34 : decode cX4_holdsAsBefore 34 = .ok (.iconst 0, 1) := by decide +kernel
theorem dX4_holdsAsBefore_35 : decode cX4_holdsAsBefore 35 = .ok (.istore 4, 2) := by decide +kernel
theorem dX4_holdsAsBefore_37 : decode cX4_holdsAsBefore 37 = .ok (.iload 4, 2) := by decide +kernel
theorem dX4_holdsAsBefore_39 : decode cX4_holdsAsBefore 39 = .ok (.aload_n 0, 1) := by decide +kernel
theorem dX4_holdsAsBefore_40 : decode cX4_holdsAsBefore 40 = .ok (.getfield 14, 3) := by decide +kernel
theorem dX4_holdsAsBefore_43 : decode cX4_holdsAsBefore 43 = .ok (.aload_n 2, 1) := by decide +kernel
theorem dX4_holdsAsBefore_44 : decode cX4_holdsAsBefore 44 = .ok (.getfield 79, 3) := by decide +kernel
theorem dX4_holdsAsBefore_47 : decode cX4_holdsAsBefore 47 = .ok (.iload_n 3, 1) := by decide +kernel
theorem dX4_holdsAsBefore_48 : decode cX4_holdsAsBefore 48 = .ok (.iaload, 1) := by decide +kernel
theorem dX4_holdsAsBefore_49 : decode cX4_holdsAsBefore 49 = .ok (.aload_n 2, 1) := by decide +kernel
theorem dX4_holdsAsBefore_50 : decode cX4_holdsAsBefore 50 = .ok (.getfield 82, 3) := by decide +kernel
theorem dX4_holdsAsBefore_53 : decode cX4_holdsAsBefore 53 = .ok (.iload_n 3, 1) := by decide +kernel
theorem dX4_holdsAsBefore_54 : decode cX4_holdsAsBefore 54 = .ok (.iaload, 1) := by decide +kernel
theorem dX4_holdsAsBefore_55 : decode cX4_holdsAsBefore 55 = .ok (.invokevirtual 174, 3) := by decide +kernel
theorem dX4_holdsAsBefore_58 : decode cX4_holdsAsBefore 58 = .ok (.iconst 1, 1) := by decide +kernel
theorem dX4_holdsAsBefore_59 : decode cX4_holdsAsBefore 59 = .ok (.if_icmp .ne 7, 3) := by decide +kernel
theorem dX4_holdsAsBefore_62 : decode cX4_holdsAsBefore 62 = .ok (.iconst 1, 1) := by decide +kernel
theorem dX4_holdsAsBefore_63 : decode cX4_holdsAsBefore 63 = .ok (.goto 4, 3) := by decide +kernel
theorem dX4_holdsAsBefore_66 : decode cX4_holdsAsBefore 66 = .ok (.iconst 0, 1) := by decide +kernel
theorem dX4_holdsAsBefore_67 : decode cX4_holdsAsBefore 67 = .ok (.if_icmp .eq 5, 3) := by decide +kernel
theorem dX4_holdsAsBefore_70 : decode cX4_holdsAsBefore 70 = .ok (.iconst 0, 1) := by decide +kernel
theorem dX4_holdsAsBefore_71 : decode cX4_holdsAsBefore 71 = .ok (.ireturn, 1) := by decide +kernel
theorem dX4_holdsAsBefore_72 : decode cX4_holdsAsBefore 72 = .ok (.iinc 3 1, 3) := by decide +kernel
theorem dX4_holdsAsBefore_75 : decode cX4_holdsAsBefore 75 = .ok (.goto (-73), 3) := by decide +kernel
theorem dX4_holdsAsBefore_78 : decode cX4_holdsAsBefore 78 = .ok (.iconst 1, 1) := by decide +kernel
theorem dX4_holdsAsBefore_79 : decode cX4_holdsAsBefore 79 = .ok (.ireturn, 1) := by decide +kernel
theorem dX4_isIn_0 : decode cX4_isIn 0 = .ok (.aload_n 0, 1) := by decide +kernel
theorem dX4_isIn_1 : decode cX4_isIn 1 = .ok (.aload_n 1, 1) := by decide +kernel
theorem dX4_isIn_2 : decode cX4_isIn 2 = .ok (.getfield 79, 3) := by decide +kernel
theorem dX4_isIn_5 : decode cX4_isIn 5 = .ok (.iconst 0, 1) := by decide +kernel
theorem dX4_isIn_6 : decode cX4_isIn 6 = .ok (.iaload, 1) := by decide +kernel
theorem dX4_isIn_7 : decode cX4_isIn 7 = .ok (.aload_n 1, 1) := by decide +kernel
theorem dX4_isIn_8 : decode cX4_isIn 8 = .ok (.getfield 82, 3) := by decide +kernel
theorem dX4_isIn_11 : decode cX4_isIn 11 = .ok (.iconst 0, 1) := by decide +kernel
theorem dX4_isIn_12 : decode cX4_isIn 12 = .ok (.iaload, 1) := by decide +kernel
theorem dX4_isIn_13 : decode cX4_isIn 13 = .ok (.invokevirtual 174, 3) := by decide +kernel
theorem dX4_isIn_16 : decode cX4_isIn 16 = .ok (.iconst 1, 1) := by decide +kernel
theorem dX4_isIn_17 : decode cX4_isIn 17 = .ok (.if_icmp .ne 7, 3) := by decide +kernel
theorem dX4_isIn_20 : decode cX4_isIn 20 = .ok (.iconst 1, 1) := by decide +kernel
theorem dX4_isIn_21 : decode cX4_isIn 21 = .ok (.goto 4, 3) := by decide +kernel
theorem dX4_isIn_24 : decode cX4_isIn 24 = .ok (.iconst 0, 1) := by decide +kernel
theorem dX4_isIn_25 : decode cX4_isIn 25 = .ok (.ireturn, 1) := by decide +kernel
theorem dX4_isWayFree_0 : decode cX4_isWayFree 0 = .ok (.aload_n 0, 1) := by decide +kernel
theorem dX4_isWayFree_1 : decode cX4_isWayFree 1 = .ok (.getfield 23, 3) := by decide +kernel
theorem dX4_isWayFree_4 : decode cX4_isWayFree 4 = .ok (.iconst 0, 1) := by decide +kernel
theorem dX4_isWayFree_5 : decode cX4_isWayFree 5 = .ok (.invokevirtual 177, 3) := by decide +kernel
theorem dX4_isWayFree_8 : decode cX4_isWayFree 8 = .ok (.aload_n 0, 1) := by decide +kernel
theorem dX4_isWayFree_9 : decode cX4_isWayFree 9 = .ok (.getfield 23, 3) := by decide +kernel
theorem dX4_isWayFree_12 : decode cX4_isWayFree 12 = .ok (.aload_n 1, 1) := by decide +kernel
theorem dX4_isWayFree_13 : decode cX4_isWayFree 13 = .ok (.getfield 79, 3) := by decide +kernel
theorem dX4_isWayFree_16 : decode cX4_isWayFree 16 = .ok (.iconst 0, 1) := by decide +kernel
theorem dX4_isWayFree_17 : decode cX4_isWayFree 17 = .ok (.iaload, 1) := by decide +kernel
theorem dX4_isWayFree_18 : decode cX4_isWayFree 18 = .ok (.aload_n 1, 1) := by decide +kernel
theorem dX4_isWayFree_19 : decode cX4_isWayFree 19 = .ok (.getfield 82, 3) := by decide +kernel
theorem dX4_isWayFree_22 : decode cX4_isWayFree 22 = .ok (.iconst 0, 1) := by decide +kernel
theorem dX4_isWayFree_23 : decode cX4_isWayFree 23 = .ok (.iaload, 1) := by decide +kernel
theorem dX4_isWayFree_24 : decode cX4_isWayFree 24 = .ok (.invokevirtual 181, 3) := by decide +kernel
theorem dX4_isWayFree_27 : decode cX4_isWayFree 27 = .ok (.aload_n 0, 1) := by decide +kernel
theorem dX4_isWayFree_28 : decode cX4_isWayFree 28 = .ok (.getfield 23, 3) := by decide +kernel
theorem dX4_isWayFree_31 : decode cX4_isWayFree 31 = .ok (.aload_n 0, 1) := by decide +kernel
theorem dX4_isWayFree_32 : decode cX4_isWayFree 32 = .ok (.getfield 14, 3) := by decide +kernel
theorem dX4_isWayFree_35 : decode cX4_isWayFree 35 = .ok (.getfield 79, 3) := by decide +kernel
theorem dX4_isWayFree_38 : decode cX4_isWayFree 38 = .ok (.iconst 0, 1) := by decide +kernel
theorem dX4_isWayFree_39 : decode cX4_isWayFree 39 = .ok (.iaload, 1) := by decide +kernel
theorem dX4_isWayFree_40 : decode cX4_isWayFree 40 = .ok (.aload_n 0, 1) := by decide +kernel
theorem dX4_isWayFree_41 : decode cX4_isWayFree 41 = .ok (.getfield 14, 3) := by decide +kernel
theorem dX4_isWayFree_44 : decode cX4_isWayFree 44 = .ok (.getfield 82, 3) := by decide +kernel
theorem dX4_isWayFree_47 : decode cX4_isWayFree 47 = .ok (.iconst 0, 1) := by decide +kernel
theorem dX4_isWayFree_48 : decode cX4_isWayFree 48 = .ok (.iaload, 1) := by decide +kernel
theorem dX4_isWayFree_49 : decode cX4_isWayFree 49 = .ok (.invokevirtual 181, 3) := by decide +kernel
theorem dX4_isWayFree_52 : decode cX4_isWayFree 52 = .ok (.iconst 0, 1) := by decide +kernel
theorem dX4_isWayFree_53 : decode cX4_isWayFree 53 = .ok (.istore_n 3, 1) := by decide +kernel
theorem dX4_isWayFree_54 : decode cX4_isWayFree 54 = .ok (.iload_n 3, 1) := by decide +kernel
theorem dX4_isWayFree_55 : decode cX4_isWayFree 55 = .ok (.aload_n 2, 1) := by decide +kernel
theorem dX4_isWayFree_56 : decode cX4_isWayFree 56 = .ok (.invokevirtual 184, 3) := by decide +kernel
theorem dX4_isWayFree_59 : decode cX4_isWayFree 59 = .ok (.if_icmp .ge 94, 3) := by decide +kernel
theorem dX4_isWayFree_62 : decode cX4_isWayFree 62 = .ok (.aload_n 0, 1) := by decide +kernel
theorem dX4_isWayFree_63 : decode cX4_isWayFree 63 = .ok (.getfield 23, 3) := by decide +kernel
theorem dX4_isWayFree_66 : decode cX4_isWayFree 66 = .ok (.iconst 0, 1) := by decide +kernel
theorem dX4_isWayFree_67 : decode cX4_isWayFree 67 = .ok (.aload_n 2, 1) := by decide +kernel
theorem dX4_isWayFree_68 : decode cX4_isWayFree 68 = .ok (.iload_n 3, 1) := by decide +kernel
theorem dX4_isWayFree_69 : decode cX4_isWayFree 69 = .ok (.invokevirtual 188, 3) := by decide +kernel
theorem dX4_isWayFree_72 : decode cX4_isWayFree 72 = .ok (.ifCond .ne 6, 3) := by decide +kernel
theorem dX4_isWayFree_75 : decode cX4_isWayFree 75 = .ok (.goto 72, 3) := by decide +kernel
theorem dX4_isWayFree_78 : decode cX4_isWayFree 78 = .ok (.aload_n 2, 1) := by decide +kernel
theorem dX4_isWayFree_79 : decode cX4_isWayFree 79 = .ok (.iload_n 3, 1) := by decide +kernel
theorem dX4_isWayFree_80 : decode cX4_isWayFree 80 = .ok (.invokevirtual 148, 3) := by decide +kernel
theorem dX4_isWayFree_83 : decode cX4_isWayFree 83 = .ok (.istore 4, 2) := by decide +kernel
theorem dX4_isWayFree_85 : decode cX4_isWayFree 85 = .ok (.aload_n 2, 1) := by decide +kernel
theorem dX4_isWayFree_86 : decode cX4_isWayFree 86 = .ok (.iload_n 3, 1) := by decide +kernel
theorem dX4_isWayFree_87 : decode cX4_isWayFree 87 = .ok (.aload_n 1, 1) := by decide +kernel
theorem dX4_isWayFree_88 : decode cX4_isWayFree 88 = .ok (.getfield 79, 3) := by decide +kernel
theorem dX4_isWayFree_91 : decode cX4_isWayFree 91 = .ok (.iconst 0, 1) := by decide +kernel
theorem dX4_isWayFree_92 : decode cX4_isWayFree 92 = .ok (.iaload, 1) := by decide +kernel
theorem dX4_isWayFree_93 : decode cX4_isWayFree 93 = .ok (.aload_n 1, 1) := by decide +kernel
theorem dX4_isWayFree_94 : decode cX4_isWayFree 94 = .ok (.getfield 82, 3) := by decide +kernel
theorem dX4_isWayFree_97 : decode cX4_isWayFree 97 = .ok (.iconst 0, 1) := by decide +kernel
theorem dX4_isWayFree_98 : decode cX4_isWayFree 98 = .ok (.iaload, 1) := by decide +kernel
theorem dX4_isWayFree_99 : decode cX4_isWayFree 99 = .ok (.invokevirtual 192, 3) := by decide +kernel
theorem dX4_isWayFree_102 : decode cX4_isWayFree 102 = .ok (.ifCond .eq 43, 3) := by decide +kernel
theorem dX4_isWayFree_105 : decode cX4_isWayFree 105 = .ok (.aload_n 0, 1) := by decide +kernel
theorem dX4_isWayFree_106 : decode cX4_isWayFree 106 = .ok (.aload_n 2, 1) := by decide +kernel
theorem dX4_isWayFree_107 : decode cX4_isWayFree 107 = .ok (.getfield 79, 3) := by decide +kernel
theorem dX4_isWayFree_110 : decode cX4_isWayFree 110 = .ok (.iload_n 3, 1) := by decide +kernel
theorem dX4_isWayFree_111 : decode cX4_isWayFree 111 = .ok (.iaload, 1) := by decide +kernel
theorem dX4_isWayFree_112 : decode cX4_isWayFree 112 = .ok (.aload_n 2, 1) := by decide +kernel
theorem dX4_isWayFree_113 : decode cX4_isWayFree 113 = .ok (.getfield 82, 3) := by decide +kernel
theorem dX4_isWayFree_116 : decode cX4_isWayFree 116 = .ok (.iload_n 3, 1) := by decide +kernel
theorem dX4_isWayFree_117 : decode cX4_isWayFree 117 = .ok (.iaload, 1) := by decide +kernel
theorem dX4_isWayFree_118 : decode cX4_isWayFree 118 = .ok (.invokevirtual 196, 3) := by decide +kernel
theorem dX4_isWayFree_121 : decode cX4_isWayFree 121 = .ok (.ifCond .ne 24, 3) := by decide +kernel
theorem dX4_isWayFree_124 : decode cX4_isWayFree 124 = .ok (.aload_n 0, 1) := by decide +kernel
theorem dX4_isWayFree_125 : decode cX4_isWayFree 125 = .ok (.aload_n 2, 1) := by decide +kernel
theorem dX4_isWayFree_126 : decode cX4_isWayFree 126 = .ok (.getfield 79, 3) := by decide +kernel
theorem dX4_isWayFree_129 : decode cX4_isWayFree 129 = .ok (.iload 4, 2) := by decide +kernel
theorem dX4_isWayFree_131 : decode cX4_isWayFree 131 = .ok (.iaload, 1) := by decide +kernel
theorem dX4_isWayFree_132 : decode cX4_isWayFree 132 = .ok (.aload_n 2, 1) := by decide +kernel
theorem dX4_isWayFree_133 : decode cX4_isWayFree 133 = .ok (.getfield 82, 3) := by decide +kernel
theorem dX4_isWayFree_136 : decode cX4_isWayFree 136 = .ok (.iload 4, 2) := by decide +kernel
theorem dX4_isWayFree_138 : decode cX4_isWayFree 138 = .ok (.iaload, 1) := by decide +kernel
theorem dX4_isWayFree_139 : decode cX4_isWayFree 139 = .ok (.invokevirtual 196, 3) := by decide +kernel
theorem dX4_isWayFree_142 : decode cX4_isWayFree 142 = .ok (.ifCond .eq 5, 3) := by decide +kernel
theorem dX4_isWayFree_145 : decode cX4_isWayFree 145 = .ok (.iconst 0, 1) := by decide +kernel
theorem dX4_isWayFree_146 : decode cX4_isWayFree 146 = .ok (.ireturn, 1) := by decide +kernel
theorem dX4_isWayFree_147 : decode cX4_isWayFree 147 = .ok (.iinc 3 1, 3) := by decide +kernel
theorem dX4_isWayFree_150 : decode cX4_isWayFree 150 = .ok (.goto (-96), 3) := by decide +kernel
theorem dX4_isWayFree_153 : decode cX4_isWayFree 153 = .ok (.iconst 1, 1) := by decide +kernel
theorem dX4_isWayFree_154 : decode cX4_isWayFree 154 = .ok (.ireturn, 1) := by decide +kernel
theorem dX4_leadsTo_0 : decode cX4_leadsTo 0 = .ok (.aload_n 0, 1) := by decide +kernel
theorem dX4_leadsTo_1 : decode cX4_leadsTo 1 = .ok (.getfield 23, 3) := by decide +kernel
theorem dX4_leadsTo_4 : decode cX4_leadsTo 4 = .ok (.getfield 79, 3) := by decide +kernel
theorem dX4_leadsTo_7 : decode cX4_leadsTo 7 = .ok (.iconst 1, 1) := by decide +kernel
theorem dX4_leadsTo_8 : decode cX4_leadsTo 8 = .ok (.iaload, 1) := by decide +kernel
theorem dX4_leadsTo_9 : decode cX4_leadsTo 9 = .ok (.aload_n 0, 1) := by decide +kernel
theorem dX4_leadsTo_10 : decode cX4_leadsTo 10 = .ok (.getfield 23, 3) := by decide +kernel
theorem dX4_leadsTo_13 : decode cX4_leadsTo 13 = .ok (.getfield 79, 3) := by decide +kernel
theorem dX4_leadsTo_16 : decode cX4_leadsTo 16 = .ok (.iconst 0, 1) := by decide +kernel
theorem dX4_leadsTo_17 : decode cX4_leadsTo 17 = .ok (.iaload, 1) := by decide +kernel
theorem dX4_leadsTo_18 : decode cX4_leadsTo 18 = .ok (.isub, 1) := by decide +kernel
theorem dX4_leadsTo_19 : decode cX4_leadsTo 19 = .ok (.iload_n 1, 1) := by decide +kernel
theorem dX4_leadsTo_20 : decode cX4_leadsTo 20 = .ok (.aload_n 0, 1) := by decide +kernel
theorem dX4_leadsTo_21 : decode cX4_leadsTo 21 = .ok (.getfield 23, 3) := by decide +kernel
theorem dX4_leadsTo_24 : decode cX4_leadsTo 24 = .ok (.getfield 79, 3) := by decide +kernel
theorem dX4_leadsTo_27 : decode cX4_leadsTo 27 = .ok (.iconst 0, 1) := by decide +kernel
theorem dX4_leadsTo_28 : decode cX4_leadsTo 28 = .ok (.iaload, 1) := by decide +kernel
theorem dX4_leadsTo_29 : decode cX4_leadsTo 29 = .ok (.isub, 1) := by decide +kernel
theorem dX4_leadsTo_30 : decode cX4_leadsTo 30 = .ok (.imul, 1) := by decide +kernel
theorem dX4_leadsTo_31 : decode cX4_leadsTo 31 = .ok (.aload_n 0, 1) := by decide +kernel
theorem dX4_leadsTo_32 : decode cX4_leadsTo 32 = .ok (.getfield 23, 3) := by decide +kernel
theorem dX4_leadsTo_35 : decode cX4_leadsTo 35 = .ok (.getfield 82, 3) := by decide +kernel
theorem dX4_leadsTo_38 : decode cX4_leadsTo 38 = .ok (.iconst 1, 1) := by decide +kernel
theorem dX4_leadsTo_39 : decode cX4_leadsTo 39 = .ok (.iaload, 1) := by decide +kernel
theorem dX4_leadsTo_40 : decode cX4_leadsTo 40 = .ok (.aload_n 0, 1) := by decide +kernel
theorem dX4_leadsTo_41 : decode cX4_leadsTo 41 = .ok (.getfield 23, 3) := by decide +kernel
theorem dX4_leadsTo_44 : decode cX4_leadsTo 44 = .ok (.getfield 82, 3) := by decide +kernel
theorem dX4_leadsTo_47 : decode cX4_leadsTo 47 = .ok (.iconst 0, 1) := by decide +kernel
theorem dX4_leadsTo_48 : decode cX4_leadsTo 48 = .ok (.iaload, 1) := by decide +kernel
theorem dX4_leadsTo_49 : decode cX4_leadsTo 49 = .ok (.isub, 1) := by decide +kernel
theorem dX4_leadsTo_50 : decode cX4_leadsTo 50 = .ok (.iload_n 2, 1) := by decide +kernel
theorem dX4_leadsTo_51 : decode cX4_leadsTo 51 = .ok (.aload_n 0, 1) := by decide +kernel
theorem dX4_leadsTo_52 : decode cX4_leadsTo 52 = .ok (.getfield 23, 3) := by decide +kernel
theorem dX4_leadsTo_55 : decode cX4_leadsTo 55 = .ok (.getfield 82, 3) := by decide +kernel
theorem dX4_leadsTo_58 : decode cX4_leadsTo 58 = .ok (.iconst 0, 1) := by decide +kernel
theorem dX4_leadsTo_59 : decode cX4_leadsTo 59 = .ok (.iaload, 1) := by decide +kernel
theorem dX4_leadsTo_60 : decode cX4_leadsTo 60 = .ok (.isub, 1) := by decide +kernel
theorem dX4_leadsTo_61 : decode cX4_leadsTo 61 = .ok (.imul, 1) := by decide +kernel
theorem dX4_leadsTo_62 : decode cX4_leadsTo 62 = .ok (.iadd, 1) := by decide +kernel
theorem dX4_leadsTo_63 : decode cX4_leadsTo 63 = .ok (.istore_n 3, 1) := by decide +kernel
theorem dX4_leadsTo_64 : decode cX4_leadsTo 64 = .ok (.aload_n 0, 1) := by decide +kernel
theorem dX4_leadsTo_65 : decode cX4_leadsTo 65 = .ok (.getfield 23, 3) := by decide +kernel
theorem dX4_leadsTo_68 : decode cX4_leadsTo 68 = .ok (.iconst 0, 1) := by decide +kernel
theorem dX4_leadsTo_69 : decode cX4_leadsTo 69 = .ok (.iload_n 1, 1) := by decide +kernel
theorem dX4_leadsTo_70 : decode cX4_leadsTo 70 = .ok (.iload_n 2, 1) := by decide +kernel
theorem dX4_leadsTo_71 : decode cX4_leadsTo 71 = .ok (.invokevirtual 199, 3) := by decide +kernel
theorem dX4_leadsTo_74 : decode cX4_leadsTo 74 = .ok (.ifCond .ne 11, 3) := by decide +kernel
theorem dX4_leadsTo_77 : decode cX4_leadsTo 77 = .ok (.iload_n 3, 1) := by decide +kernel
theorem dX4_leadsTo_78 : decode cX4_leadsTo 78 = .ok (.ifCond .le 7, 3) := by decide +kernel
theorem dX4_leadsTo_81 : decode cX4_leadsTo 81 = .ok (.iconst 1, 1) := by decide +kernel
theorem dX4_leadsTo_82 : decode cX4_leadsTo 82 = .ok (.goto 4, 3) := by decide +kernel
theorem dX4_leadsTo_85 : decode cX4_leadsTo 85 = .ok (.iconst 0, 1) := by decide +kernel
theorem dX4_leadsTo_86 : decode cX4_leadsTo 86 = .ok (.ireturn, 1) := by decide +kernel
theorem dX4_isSweptByCut_0 : decode cX4_isSweptByCut 0 = .ok (.aload_n 1, 1) := by decide +kernel
theorem dX4_isSweptByCut_1 : decode cX4_isSweptByCut 1 = .ok (.iload_n 3, 1) := by decide +kernel
theorem dX4_isSweptByCut_2 : decode cX4_isSweptByCut 2 = .ok (.invokevirtual 114, 3) := by decide +kernel
theorem dX4_isSweptByCut_5 : decode cX4_isSweptByCut 5 = .ok (.istore 4, 2) := by decide +kernel
theorem dX4_isSweptByCut_7 : decode cX4_isSweptByCut 7 = .ok (.aload_n 1, 1) := by decide +kernel
theorem dX4_isSweptByCut_8 : decode cX4_isSweptByCut 8 = .ok (.iload_n 3, 1) := by decide +kernel
theorem dX4_isSweptByCut_9 : decode cX4_isSweptByCut 9 = .ok (.invokevirtual 148, 3) := by decide +kernel
theorem dX4_isSweptByCut_12 : decode cX4_isSweptByCut 12 = .ok (.istore 5, 2) := by decide +kernel
theorem dX4_isSweptByCut_14 : decode cX4_isSweptByCut 14 = .ok (.aload_n 0, 1) := by decide +kernel
theorem dX4_isSweptByCut_15 : decode cX4_isSweptByCut 15 = .ok (.aload_n 1, 1) := by decide +kernel
theorem dX4_isSweptByCut_16 : decode cX4_isSweptByCut 16 = .ok (.iload 4, 2) := by decide +kernel
theorem dX4_isSweptByCut_18 : decode cX4_isSweptByCut 18 = .ok (.aload_n 1, 1) := by decide +kernel
theorem dX4_isSweptByCut_19 : decode cX4_isSweptByCut 19 = .ok (.iload_n 3, 1) := by decide +kernel
theorem dX4_isSweptByCut_20 : decode cX4_isSweptByCut 20 = .ok (.aload_n 1, 1) := by decide +kernel
theorem dX4_isSweptByCut_21 : decode cX4_isSweptByCut 21 = .ok (.iload 5, 2) := by decide +kernel
theorem dX4_isSweptByCut_23 : decode cX4_isSweptByCut 23 = .ok (.invokevirtual 203, 3) := by decide +kernel
theorem dX4_isSweptByCut_26 : decode cX4_isSweptByCut 26 = .ok (.aload_n 0, 1) := by decide +kernel
theorem dX4_isSweptByCut_27 : decode cX4_isSweptByCut 27 = .ok (.aload_n 2, 1) := by decide +kernel
theorem dX4_isSweptByCut_28 : decode cX4_isSweptByCut 28 = .ok (.aload_n 1, 1) := by decide +kernel
theorem dX4_isSweptByCut_29 : decode cX4_isSweptByCut 29 = .ok (.iload 4, 2) := by decide +kernel
theorem dX4_isSweptByCut_31 : decode cX4_isSweptByCut 31 = .ok (.aload_n 1, 1) := by decide +kernel
theorem dX4_isSweptByCut_32 : decode cX4_isSweptByCut 32 = .ok (.iload 5, 2) := by decide +kernel
theorem dX4_isSweptByCut_34 : decode cX4_isSweptByCut 34 = .ok (.invokevirtual 207, 3) := by decide +kernel
theorem dX4_isSweptByCut_37 : decode cX4_isSweptByCut 37 = .ok (.ireturn, 1) := by decide +kernel
theorem dX4_isSweptByMove_0 : decode cX4_isSweptByMove 0 = .ok (.iconst 0, 1) := by decide +kernel
theorem dX4_isSweptByMove_1 : decode cX4_isSweptByMove 1 = .ok (.istore_n 3, 1) := by decide +kernel
theorem dX4_isSweptByMove_2 : decode cX4_isSweptByMove 2 = .ok (.iload_n 3, 1) := by decide +kernel
theorem dX4_isSweptByMove_3 : decode cX4_isSweptByMove 3 = .ok (.aload_n 1, 1) := by decide +kernel
theorem dX4_isSweptByMove_4 : decode cX4_isSweptByMove 4 = .ok (.invokevirtual 211, 3) := by decide +kernel
theorem dX4_isSweptByMove_7 : decode cX4_isSweptByMove 7 = .ok (.if_icmp .ge 158, 3) := by decide +kernel
theorem dX4_isSweptByMove_10 : decode cX4_isSweptByMove 10 = .ok (.aload_n 1, 1) := by decide +kernel
theorem dX4_isSweptByMove_11 : decode cX4_isSweptByMove 11 = .ok (.iload_n 3, 1) := by decide +kernel
theorem dX4_isSweptByMove_12 : decode cX4_isSweptByMove 12 = .ok (.invokevirtual 148, 3) := by decide +kernel
theorem dX4_isSweptByMove_15 : decode cX4_isSweptByMove 15 = .ok (.istore 4, 2) := by decide +kernel
theorem dX4_isSweptByMove_17 : decode cX4_isSweptByMove 17 = .ok (.aload_n 0, 1) := by decide +kernel
theorem dX4_isSweptByMove_18 : decode cX4_isSweptByMove 18 = .ok (.getfield 14, 3) := by decide +kernel
theorem dX4_isSweptByMove_21 : decode cX4_isSweptByMove 21 = .ok (.iload_n 3, 1) := by decide +kernel
theorem dX4_isSweptByMove_22 : decode cX4_isSweptByMove 22 = .ok (.aload_n 1, 1) := by decide +kernel
theorem dX4_isSweptByMove_23 : decode cX4_isSweptByMove 23 = .ok (.getfield 79, 3) := by decide +kernel
theorem dX4_isSweptByMove_26 : decode cX4_isSweptByMove 26 = .ok (.iload_n 3, 1) := by decide +kernel
theorem dX4_isSweptByMove_27 : decode cX4_isSweptByMove 27 = .ok (.iaload, 1) := by decide +kernel
theorem dX4_isSweptByMove_28 : decode cX4_isSweptByMove 28 = .ok (.aload_n 1, 1) := by decide +kernel
theorem dX4_isSweptByMove_29 : decode cX4_isSweptByMove 29 = .ok (.getfield 82, 3) := by decide +kernel
theorem dX4_isSweptByMove_32 : decode cX4_isSweptByMove 32 = .ok (.iload_n 3, 1) := by decide +kernel
theorem dX4_isSweptByMove_33 : decode cX4_isSweptByMove 33 = .ok (.iaload, 1) := by decide +kernel
theorem dX4_isSweptByMove_34 : decode cX4_isSweptByMove 34 = .ok (.invokevirtual 214, 3) := by decide +kernel
theorem dX4_isSweptByMove_37 : decode cX4_isSweptByMove 37 = .ok (.ifCond .eq 7, 3) := by decide +kernel
theorem dX4_isSweptByMove_40 : decode cX4_isSweptByMove 40 = .ok (.aload_n 1, 1) := by decide +kernel
theorem dX4_isSweptByMove_41 : decode cX4_isSweptByMove 41 = .ok (.goto 4, 3) := by decide +kernel
theorem dX4_isSweptByMove_44 : decode cX4_isSweptByMove 44 = .ok (.aconst_null, 1) := by decide +kernel
theorem dX4_isSweptByMove_45 : decode cX4_isSweptByMove 45 = .ok (.astore 5, 2) := by decide +kernel
theorem dX4_isSweptByMove_47 : decode cX4_isSweptByMove 47 = .ok (.aload_n 0, 1) := by decide +kernel
theorem dX4_isSweptByMove_48 : decode cX4_isSweptByMove 48 = .ok (.getfield 14, 3) := by decide +kernel
theorem dX4_isSweptByMove_51 : decode cX4_isSweptByMove 51 = .ok (.iload 4, 2) := by decide +kernel
theorem dX4_isSweptByMove_53 : decode cX4_isSweptByMove 53 = .ok (.aload_n 1, 1) := by decide +kernel
theorem dX4_isSweptByMove_54 : decode cX4_isSweptByMove 54 = .ok (.getfield 79, 3) := by decide +kernel
theorem dX4_isSweptByMove_57 : decode cX4_isSweptByMove 57 = .ok (.iload 4, 2) := by decide +kernel
theorem dX4_isSweptByMove_59 : decode cX4_isSweptByMove 59 = .ok (.iaload, 1) := by decide +kernel
theorem dX4_isSweptByMove_60 : decode cX4_isSweptByMove 60 = .ok (.aload_n 1, 1) := by decide +kernel
theorem dX4_isSweptByMove_61 : decode cX4_isSweptByMove 61 = .ok (.getfield 82, 3) := by decide +kernel
theorem dX4_isSweptByMove_64 : decode cX4_isSweptByMove 64 = .ok (.iload 4, 2) := by decide +kernel
theorem dX4_isSweptByMove_66 : decode cX4_isSweptByMove 66 = .ok (.iaload, 1) := by decide +kernel
theorem dX4_isSweptByMove_67 : decode cX4_isSweptByMove 67 = .ok (.invokevirtual 214, 3) := by decide +kernel
theorem dX4_isSweptByMove_70 : decode cX4_isSweptByMove 70 = .ok (.ifCond .eq 7, 3) := by decide +kernel
theorem dX4_isSweptByMove_73 : decode cX4_isSweptByMove 73 = .ok (.aload_n 1, 1) := by decide +kernel
theorem dX4_isSweptByMove_74 : decode cX4_isSweptByMove 74 = .ok (.goto 4, 3) := by decide +kernel
theorem dX4_isSweptByMove_77 : decode cX4_isSweptByMove 77 = .ok (.aconst_null, 1) := by decide +kernel
theorem dX4_isSweptByMove_78 : decode cX4_isSweptByMove 78 = .ok (.astore 6, 2) := by decide +kernel
theorem dX4_isSweptByMove_80 : decode cX4_isSweptByMove 80 = .ok (.aload 5, 2) := by decide +kernel
theorem dX4_isSweptByMove_82 : decode cX4_isSweptByMove 82 = .ok (.ifnull 11, 3) := by decide +kernel
theorem dX4_isSweptByMove_85 : decode cX4_isSweptByMove 85 = .ok (.aload 6, 2) := by decide +kernel
theorem dX4_isSweptByMove_87 : decode cX4_isSweptByMove 87 = .ok (.ifnull 6, 3) := by decide +kernel
theorem dX4_isSweptByMove_90 : decode cX4_isSweptByMove 90 = .ok (.goto 69, 3) := by decide +kernel
theorem dX4_isSweptByMove_93 : decode cX4_isSweptByMove 93 = .ok (.aload_n 0, 1) := by decide +kernel
theorem dX4_isSweptByMove_94 : decode cX4_isSweptByMove 94 = .ok (.aload_n 1, 1) := by decide +kernel
theorem dX4_isSweptByMove_95 : decode cX4_isSweptByMove 95 = .ok (.iload_n 3, 1) := by decide +kernel
theorem dX4_isSweptByMove_96 : decode cX4_isSweptByMove 96 = .ok (.aload_n 1, 1) := by decide +kernel
theorem dX4_isSweptByMove_97 : decode cX4_isSweptByMove 97 = .ok (.iload 4, 2) := by decide +kernel
theorem dX4_isSweptByMove_99 : decode cX4_isSweptByMove 99 = .ok (.aload_n 0, 1) := by decide +kernel
theorem dX4_isSweptByMove_100 : decode cX4_isSweptByMove 100 = .ok (.getfield 14, 3) := by decide +kernel
theorem dX4_isSweptByMove_103 : decode cX4_isSweptByMove 103 = .ok (.iload 4, 2) := by decide +kernel
theorem dX4_isSweptByMove_105 : decode cX4_isSweptByMove 105 = .ok (.invokevirtual 203, 3) := by decide +kernel
theorem dX4_isSweptByMove_108 : decode cX4_isSweptByMove 108 = .ok (.aload_n 0, 1) := by decide +kernel
theorem dX4_isSweptByMove_109 : decode cX4_isSweptByMove 109 = .ok (.aload_n 2, 1) := by decide +kernel
theorem dX4_isSweptByMove_110 : decode cX4_isSweptByMove 110 = .ok (.aload 5, 2) := by decide +kernel
theorem dX4_isSweptByMove_112 : decode cX4_isSweptByMove 112 = .ok (.iload_n 3, 1) := by decide +kernel
theorem dX4_isSweptByMove_113 : decode cX4_isSweptByMove 113 = .ok (.aload 6, 2) := by decide +kernel
theorem dX4_isSweptByMove_115 : decode cX4_isSweptByMove 115 = .ok (.iload 4, 2) := by decide +kernel
theorem dX4_isSweptByMove_117 : decode cX4_isSweptByMove 117 = .ok (.invokevirtual 207, 3) := by decide +kernel
theorem dX4_isSweptByMove_120 : decode cX4_isSweptByMove 120 = .ok (.ifCond .eq 5, 3) := by decide +kernel
theorem dX4_isSweptByMove_123 : decode cX4_isSweptByMove 123 = .ok (.iconst 1, 1) := by decide +kernel
theorem dX4_isSweptByMove_124 : decode cX4_isSweptByMove 124 = .ok (.ireturn, 1) := by decide +kernel
theorem dX4_isSweptByMove_125 : decode cX4_isSweptByMove 125 = .ok (.aload_n 0, 1) := by decide +kernel
theorem dX4_isSweptByMove_126 : decode cX4_isSweptByMove 126 = .ok (.aload_n 1, 1) := by decide +kernel
theorem dX4_isSweptByMove_127 : decode cX4_isSweptByMove 127 = .ok (.iload_n 3, 1) := by decide +kernel
theorem dX4_isSweptByMove_128 : decode cX4_isSweptByMove 128 = .ok (.aload_n 0, 1) := by decide +kernel
theorem dX4_isSweptByMove_129 : decode cX4_isSweptByMove 129 = .ok (.getfield 14, 3) := by decide +kernel
theorem dX4_isSweptByMove_132 : decode cX4_isSweptByMove 132 = .ok (.iload_n 3, 1) := by decide +kernel
theorem dX4_isSweptByMove_133 : decode cX4_isSweptByMove 133 = .ok (.aload_n 0, 1) := by decide +kernel
theorem dX4_isSweptByMove_134 : decode cX4_isSweptByMove 134 = .ok (.getfield 14, 3) := by decide +kernel
theorem dX4_isSweptByMove_137 : decode cX4_isSweptByMove 137 = .ok (.iload 4, 2) := by decide +kernel
theorem dX4_isSweptByMove_139 : decode cX4_isSweptByMove 139 = .ok (.invokevirtual 203, 3) := by decide +kernel
theorem dX4_isSweptByMove_142 : decode cX4_isSweptByMove 142 = .ok (.aload_n 0, 1) := by decide +kernel
theorem dX4_isSweptByMove_143 : decode cX4_isSweptByMove 143 = .ok (.aload_n 2, 1) := by decide +kernel
theorem dX4_isSweptByMove_144 : decode cX4_isSweptByMove 144 = .ok (.aload 5, 2) := by decide +kernel
theorem dX4_isSweptByMove_146 : decode cX4_isSweptByMove 146 = .ok (.iload_n 3, 1) := by decide +kernel
theorem dX4_isSweptByMove_147 : decode cX4_isSweptByMove 147 = .ok (.aload 6, 2) := by decide +kernel
theorem dX4_isSweptByMove_149 : decode cX4_isSweptByMove 149 = .ok (.iload 4, 2) := by decide +kernel
theorem dX4_isSweptByMove_151 : decode cX4_isSweptByMove 151 = .ok (.invokevirtual 207, 3) := by decide +kernel
theorem dX4_isSweptByMove_154 : decode cX4_isSweptByMove 154 = .ok (.ifCond .eq 5, 3) := by decide +kernel
theorem dX4_isSweptByMove_157 : decode cX4_isSweptByMove 157 = .ok (.iconst 1, 1) := by decide +kernel
theorem dX4_isSweptByMove_158 : decode cX4_isSweptByMove 158 = .ok (.ireturn, 1) := by decide +kernel
theorem dX4_isSweptByMove_159 : decode cX4_isSweptByMove 159 = .ok (.iinc 3 1, 3) := by decide +kernel
theorem dX4_isSweptByMove_162 : decode cX4_isSweptByMove 162 = .ok (.goto (-160), 3) := by decide +kernel
theorem dX4_isSweptByMove_165 : decode cX4_isSweptByMove 165 = .ok (.iconst 0, 1) := by decide +kernel
theorem dX4_isSweptByMove_166 : decode cX4_isSweptByMove 166 = .ok (.ireturn, 1) := by decide +kernel
theorem dX4_setTriangle_0 : decode cX4_setTriangle 0 = .ok (.aload_n 0, 1) := by decide +kernel
theorem dX4_setTriangle_1 : decode cX4_setTriangle 1 = .ok (.getfield 20, 3) := by decide +kernel
theorem dX4_setTriangle_4 : decode cX4_setTriangle 4 = .ok (.iconst 1, 1) := by decide +kernel
theorem dX4_setTriangle_5 : decode cX4_setTriangle 5 = .ok (.invokevirtual 177, 3) := by decide +kernel
theorem dX4_setTriangle_8 : decode cX4_setTriangle 8 = .ok (.aload_n 0, 1) := by decide +kernel
theorem dX4_setTriangle_9 : decode cX4_setTriangle 9 = .ok (.getfield 20, 3) := by decide +kernel
theorem dX4_setTriangle_12 : decode cX4_setTriangle 12 = .ok (.aload_n 1, 1) := by decide +kernel
theorem dX4_setTriangle_13 : decode cX4_setTriangle 13 = .ok (.getfield 79, 3) := by decide +kernel
theorem dX4_setTriangle_16 : decode cX4_setTriangle 16 = .ok (.iload_n 2, 1) := by decide +kernel
theorem dX4_setTriangle_17 : decode cX4_setTriangle 17 = .ok (.iaload, 1) := by decide +kernel
theorem dX4_setTriangle_18 : decode cX4_setTriangle 18 = .ok (.aload_n 1, 1) := by decide +kernel
theorem dX4_setTriangle_19 : decode cX4_setTriangle 19 = .ok (.getfield 82, 3) := by decide +kernel
theorem dX4_setTriangle_22 : decode cX4_setTriangle 22 = .ok (.iload_n 2, 1) := by decide +kernel
theorem dX4_setTriangle_23 : decode cX4_setTriangle 23 = .ok (.iaload, 1) := by decide +kernel
theorem dX4_setTriangle_24 : decode cX4_setTriangle 24 = .ok (.invokevirtual 181, 3) := by decide +kernel
theorem dX4_setTriangle_27 : decode cX4_setTriangle 27 = .ok (.aload_n 0, 1) := by decide +kernel
theorem dX4_setTriangle_28 : decode cX4_setTriangle 28 = .ok (.getfield 20, 3) := by decide +kernel
theorem dX4_setTriangle_31 : decode cX4_setTriangle 31 = .ok (.aload_n 3, 1) := by decide +kernel
theorem dX4_setTriangle_32 : decode cX4_setTriangle 32 = .ok (.getfield 79, 3) := by decide +kernel
theorem dX4_setTriangle_35 : decode cX4_setTriangle 35 = .ok (.iload 4, 2) := by decide +kernel
theorem dX4_setTriangle_37 : decode cX4_setTriangle 37 = .ok (.iaload, 1) := by decide +kernel
theorem dX4_setTriangle_38 : decode cX4_setTriangle 38 = .ok (.aload_n 3, 1) := by decide +kernel
theorem dX4_setTriangle_39 : decode cX4_setTriangle 39 = .ok (.getfield 82, 3) := by decide +kernel
theorem dX4_setTriangle_42 : decode cX4_setTriangle 42 = .ok (.iload 4, 2) := by decide +kernel
theorem dX4_setTriangle_44 : decode cX4_setTriangle 44 = .ok (.iaload, 1) := by decide +kernel
theorem dX4_setTriangle_45 : decode cX4_setTriangle 45 = .ok (.invokevirtual 181, 3) := by decide +kernel
theorem dX4_setTriangle_48 : decode cX4_setTriangle 48 = .ok (.aload_n 0, 1) := by decide +kernel
theorem dX4_setTriangle_49 : decode cX4_setTriangle 49 = .ok (.getfield 20, 3) := by decide +kernel
theorem dX4_setTriangle_52 : decode cX4_setTriangle 52 = .ok (.aload 5, 2) := by decide +kernel
theorem dX4_setTriangle_54 : decode cX4_setTriangle 54 = .ok (.getfield 79, 3) := by decide +kernel
theorem dX4_setTriangle_57 : decode cX4_setTriangle 57 = .ok (.iload 6, 2) := by decide +kernel
theorem dX4_setTriangle_59 : decode cX4_setTriangle 59 = .ok (.iaload, 1) := by decide +kernel
theorem dX4_setTriangle_60 : decode cX4_setTriangle 60 = .ok (.aload 5, 2) := by decide +kernel
theorem dX4_setTriangle_62 : decode cX4_setTriangle 62 = .ok (.getfield 82, 3) := by decide +kernel
theorem dX4_setTriangle_65 : decode cX4_setTriangle 65 = .ok (.iload 6, 2) := by decide +kernel
theorem dX4_setTriangle_67 : decode cX4_setTriangle 67 = .ok (.iaload, 1) := by decide +kernel
theorem dX4_setTriangle_68 : decode cX4_setTriangle 68 = .ok (.invokevirtual 181, 3) := by decide +kernel
theorem dX4_setTriangle_71 : decode cX4_setTriangle 71 = .ok (.return_, 1) := by decide +kernel
theorem dX4_holdsCorner_0 : decode cX4_holdsCorner 0 = .ok (.iconst 0, 1) := by decide +kernel
theorem dX4_holdsCorner_1 : decode cX4_holdsCorner 1 = .ok (.istore 6, 2) := by decide +kernel
theorem dX4_holdsCorner_3 : decode cX4_holdsCorner 3 = .ok (.iload 6, 2) := by decide +kernel
theorem dX4_holdsCorner_5 : decode cX4_holdsCorner 5 = .ok (.aload_n 1, 1) := by decide +kernel
theorem dX4_holdsCorner_6 : decode cX4_holdsCorner 6 = .ok (.getfield 55, 3) := by decide +kernel
theorem dX4_holdsCorner_9 : decode cX4_holdsCorner 9 = .ok (.if_icmp .ge 90, 3) := by decide +kernel
theorem dX4_holdsCorner_12 : decode cX4_holdsCorner 12 = .ok (.aload_n 1, 1) := by decide +kernel
theorem dX4_holdsCorner_13 : decode cX4_holdsCorner 13 = .ok (.getfield 79, 3) := by decide +kernel
theorem dX4_holdsCorner_16 : decode cX4_holdsCorner 16 = .ok (.iload 6, 2) := by decide +kernel
theorem dX4_holdsCorner_18 : decode cX4_holdsCorner 18 = .ok (.iaload, 1) := by decide +kernel
theorem dX4_holdsCorner_19 : decode cX4_holdsCorner 19 = .ok (.istore 7, 2) := by decide +kernel
theorem dX4_holdsCorner_21 : decode cX4_holdsCorner 21 = .ok (.aload_n 1, 1) := by decide +kernel
theorem dX4_holdsCorner_22 : decode cX4_holdsCorner 22 = .ok (.getfield 82, 3) := by decide +kernel
theorem dX4_holdsCorner_25 : decode cX4_holdsCorner 25 = .ok (.iload 6, 2) := by decide +kernel
theorem dX4_holdsCorner_27 : decode cX4_holdsCorner 27 = .ok (.iaload, 1) := by decide +kernel
theorem dX4_holdsCorner_28 : decode cX4_holdsCorner 28 = .ok (.istore 8, 2) := by decide +kernel
theorem dX4_holdsCorner_30 : decode cX4_holdsCorner 30 = .ok (.aload_n 2, 1) := by decide +kernel
theorem dX4_holdsCorner_31 : decode cX4_holdsCorner 31 = .ok (.ifnull 15, 3) := by decide +kernel
theorem dX4_holdsCorner_34 : decode cX4_holdsCorner 34 = .ok (.aload_n 2, 1) := by decide +kernel
theorem dX4_holdsCorner_35 : decode cX4_holdsCorner 35 = .ok (.iload_n 3, 1) := by decide +kernel
theorem dX4_holdsCorner_36 : decode cX4_holdsCorner 36 = .ok (.iload 7, 2) := by decide +kernel
theorem dX4_holdsCorner_38 : decode cX4_holdsCorner 38 = .ok (.iload 8, 2) := by decide +kernel
theorem dX4_holdsCorner_40 : decode cX4_holdsCorner 40 = .ok (.invokevirtual 214, 3) := by decide +kernel
theorem dX4_holdsCorner_43 : decode cX4_holdsCorner 43 = .ok (.ifCond .ne 22, 3) := by decide +kernel
theorem dX4_holdsCorner_46 : decode cX4_holdsCorner 46 = .ok (.aload 4, 2) := by decide +kernel
theorem dX4_holdsCorner_48 : decode cX4_holdsCorner 48 = .ok (.ifnull 21, 3) := by decide +kernel
theorem dX4_holdsCorner_51 : decode cX4_holdsCorner 51 = .ok (.aload 4, 2) := by decide +kernel
theorem dX4_holdsCorner_53 : decode cX4_holdsCorner 53 = .ok (.iload 5, 2) := by decide +kernel
theorem dX4_holdsCorner_55 : decode cX4_holdsCorner 55 = .ok (.iload 7, 2) := by decide +kernel
theorem dX4_holdsCorner_57 : decode cX4_holdsCorner 57 = .ok (.iload 8, 2) := by decide +kernel
theorem dX4_holdsCorner_59 : decode cX4_holdsCorner 59 = .ok (.invokevirtual 214, 3) := by decide +kernel
theorem dX4_holdsCorner_62 : decode cX4_holdsCorner 62 = .ok (.ifCond .eq 7, 3) := by decide +kernel
theorem dX4_holdsCorner_65 : decode cX4_holdsCorner 65 = .ok (.iconst 1, 1) := by decide +kernel
theorem dX4_holdsCorner_66 : decode cX4_holdsCorner 66 = .ok (.goto 4, 3) := by decide +kernel
theorem dX4_holdsCorner_69 : decode cX4_holdsCorner 69 = .ok (.iconst 0, 1) := by decide +kernel
theorem dX4_holdsCorner_70 : decode cX4_holdsCorner 70 = .ok (.istore 9, 2) := by decide +kernel
theorem dX4_holdsCorner_72 : decode cX4_holdsCorner 72 = .ok (.iload 9, 2) := by decide +kernel
theorem dX4_holdsCorner_74 : decode cX4_holdsCorner 74 = .ok (.ifCond .ne 19, 3) := by decide +kernel
theorem dX4_holdsCorner_77 : decode cX4_holdsCorner 77 = .ok (.aload_n 0, 1) := by decide +kernel
theorem dX4_holdsCorner_78 : decode cX4_holdsCorner 78 = .ok (.getfield 20, 3) := by decide +kernel
theorem dX4_holdsCorner_81 : decode cX4_holdsCorner 81 = .ok (.iload 7, 2) := by decide +kernel
theorem dX4_holdsCorner_83 : decode cX4_holdsCorner 83 = .ok (.iload 8, 2) := by decide +kernel
theorem dX4_holdsCorner_85 : decode cX4_holdsCorner 85 = .ok (.invokevirtual 174, 3) := by decide +kernel
theorem dX4_holdsCorner_88 : decode cX4_holdsCorner 88 = .ok (.ifCond .eq 5, 3) := by decide +kernel
theorem dX4_holdsCorner_91 : decode cX4_holdsCorner 91 = .ok (.iconst 1, 1) := by decide +kernel
theorem dX4_holdsCorner_92 : decode cX4_holdsCorner 92 = .ok (.ireturn, 1) := by decide +kernel
theorem dX4_holdsCorner_93 : decode cX4_holdsCorner 93 = .ok (.iinc 6 1, 3) := by decide +kernel
theorem dX4_holdsCorner_96 : decode cX4_holdsCorner 96 = .ok (.goto (-93), 3) := by decide +kernel
theorem dX4_holdsCorner_99 : decode cX4_holdsCorner 99 = .ok (.iconst 0, 1) := by decide +kernel
theorem dX4_holdsCorner_100 : decode cX4_holdsCorner 100 = .ok (.ireturn, 1) := by decide +kernel
theorem dX4_isFreeFor_0 : decode cX4_isFreeFor 0 = .ok (.iconst 0, 1) := by decide +kernel
theorem dX4_isFreeFor_1 : decode cX4_isFreeFor 1 = .ok (.istore 4, 2) := by decide +kernel
theorem dX4_isFreeFor_3 : decode cX4_isFreeFor 3 = .ok (.iload 4, 2) := by decide +kernel
theorem dX4_isFreeFor_5 : decode cX4_isFreeFor 5 = .ok (.aload_n 1, 1) := by decide +kernel
theorem dX4_isFreeFor_6 : decode cX4_isFreeFor 6 = .ok (.getfield 93, 3) := by decide +kernel
theorem dX4_isFreeFor_9 : decode cX4_isFreeFor 9 = .ok (.if_icmp .ge 71, 3) := by decide +kernel
theorem dX4_isFreeFor_12 : decode cX4_isFreeFor 12 = .ok (.aload_n 1, 1) := by decide +kernel
theorem dX4_isFreeFor_13 : decode cX4_isFreeFor 13 = .ok (.iload 4, 2) := by decide +kernel
theorem dX4_isFreeFor_15 : decode cX4_isFreeFor 15 = .ok (.invokevirtual 98, 3) := by decide +kernel
theorem dX4_isFreeFor_18 : decode cX4_isFreeFor 18 = .ok (.astore 5, 2) := by decide +kernel
theorem dX4_isFreeFor_20 : decode cX4_isFreeFor 20 = .ok (.aload 5, 2) := by decide +kernel
theorem dX4_isFreeFor_22 : decode cX4_isFreeFor 22 = .ok (.ifnull 52, 3) := by decide +kernel
theorem dX4_isFreeFor_25 : decode cX4_isFreeFor 25 = .ok (.aload_n 1, 1) := by decide +kernel
theorem dX4_isFreeFor_26 : decode cX4_isFreeFor 26 = .ok (.iload 4, 2) := by decide +kernel
theorem dX4_isFreeFor_28 : decode cX4_isFreeFor 28 = .ok (.invokevirtual 102, 3) := by decide +kernel
theorem dX4_isFreeFor_31 : decode cX4_isFreeFor 31 = .ok (.aload_n 2, 1) := by decide +kernel
theorem dX4_isFreeFor_32 : decode cX4_isFreeFor 32 = .ok (.if_acmp .eq 42, 3) := by decide +kernel
theorem dX4_isFreeFor_35 : decode cX4_isFreeFor 35 = .ok (.aload_n 1, 1) := by decide +kernel
theorem dX4_isFreeFor_36 : decode cX4_isFreeFor 36 = .ok (.iload 4, 2) := by decide +kernel
theorem dX4_isFreeFor_38 : decode cX4_isFreeFor 38 = .ok (.invokevirtual 102, 3) := by decide +kernel
theorem dX4_isFreeFor_41 : decode cX4_isFreeFor 41 = .ok (.aload_n 3, 1) := by decide +kernel
theorem dX4_isFreeFor_42 : decode cX4_isFreeFor 42 = .ok (.if_acmp .ne 6, 3) := by decide +kernel
theorem dX4_isFreeFor_45 : decode cX4_isFreeFor 45 = .ok (.goto 29, 3) := by decide +kernel
theorem dX4_isFreeFor_48 : decode cX4_isFreeFor 48 = .ok (.aload_n 0, 1) := by decide +kernel
theorem dX4_isFreeFor_49 : decode cX4_isFreeFor 49 = .ok (.getfield 14, 3) := by decide +kernel
theorem dX4_isFreeFor_52 : decode cX4_isFreeFor 52 = .ok (.aload 5, 2) := by decide +kernel
theorem dX4_isFreeFor_54 : decode cX4_isFreeFor 54 = .ok (.invokevirtual 154, 3) := by decide +kernel
theorem dX4_isFreeFor_57 : decode cX4_isFreeFor 57 = .ok (.ifCond .ne 15, 3) := by decide +kernel
theorem dX4_isFreeFor_60 : decode cX4_isFreeFor 60 = .ok (.aload_n 0, 1) := by decide +kernel
theorem dX4_isFreeFor_61 : decode cX4_isFreeFor 61 = .ok (.getfield 14, 3) := by decide +kernel
theorem dX4_isFreeFor_64 : decode cX4_isFreeFor 64 = .ok (.aload 5, 2) := by decide +kernel
theorem dX4_isFreeFor_66 : decode cX4_isFreeFor 66 = .ok (.invokestatic 162, 3) := by decide +kernel
theorem dX4_isFreeFor_69 : decode cX4_isFreeFor 69 = .ok (.ifCond .eq 5, 3) := by decide +kernel
theorem dX4_isFreeFor_72 : decode cX4_isFreeFor 72 = .ok (.iconst 0, 1) := by decide +kernel
theorem dX4_isFreeFor_73 : decode cX4_isFreeFor 73 = .ok (.ireturn, 1) := by decide +kernel
theorem dX4_isFreeFor_74 : decode cX4_isFreeFor 74 = .ok (.iinc 4 1, 3) := by decide +kernel
theorem dX4_isFreeFor_77 : decode cX4_isFreeFor 77 = .ok (.goto (-74), 3) := by decide +kernel
theorem dX4_isFreeFor_80 : decode cX4_isFreeFor 80 = .ok (.iconst 1, 1) := by decide +kernel
theorem dX4_isFreeFor_81 : decode cX4_isFreeFor 81 = .ok (.ireturn, 1) := by decide +kernel
theorem dX5_init_0 : decode cX5_init 0 = .ok (.aload_n 0, 1) := by decide +kernel
theorem dX5_init_1 : decode cX5_init 1 = .ok (.invokespecial 3, 3) := by decide +kernel
theorem dX5_init_4 : decode cX5_init 4 = .ok (.aload_n 0, 1) := by decide +kernel
theorem dX5_init_5 : decode cX5_init 5 = .ok (.iconst 0, 1) := by decide +kernel
theorem dX5_init_6 : decode cX5_init 6 = .ok (.putfield 9, 3) := by decide +kernel
theorem dX5_init_9 : decode cX5_init 9 = .ok (.aload_n 0, 1) := by decide +kernel
theorem dX5_init_10 : decode cX5_init 10 = .ok (.aconst_null, 1) := by decide +kernel
theorem dX5_init_11 : decode cX5_init 11 = .ok (.putfield 15, 3) := by decide +kernel
theorem dX5_init_14 : decode cX5_init 14 = .ok (.aload_n 0, 1) := by decide +kernel
theorem dX5_init_15 : decode cX5_init 15 = .ok (.iconst 0, 1) := by decide +kernel
theorem dX5_init_16 : decode cX5_init 16 = .ok (.putfield 19, 3) := by decide +kernel
theorem dX5_init_19 : decode cX5_init 19 = .ok (.aload_n 0, 1) := by decide +kernel
theorem dX5_init_20 : decode cX5_init 20 = .ok (.iconst (-1), 1) := by decide +kernel
theorem dX5_init_21 : decode cX5_init 21 = .ok (.putfield 22, 3) := by decide +kernel
theorem dX5_init_24 : decode cX5_init 24 = .ok (.aload_n 0, 1) := by decide +kernel
theorem dX5_init_25 : decode cX5_init 25 = .ok (.iconst 0, 1) := by decide +kernel
theorem dX5_init_26 : decode cX5_init 26 = .ok (.putfield 25, 3) := by decide +kernel
theorem dX5_init_29 : decode cX5_init 29 = .ok (.aload_n 0, 1) := by decide +kernel
