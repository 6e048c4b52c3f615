section
theorem dX0_init_0 : decode cX0_init 0 = .ok (.aload_n 0, 1) := by decide +kernel
theorem dX0_init_1 : decode cX0_init 1 = .ok (.invokespecial 1, 3) := by decide +kernel
theorem dX0_init_4 : decode cX0_init 4 = .ok (.aload_n 0, 1) := by decide +kernel
theorem dX0_init_5 : decode cX0_init 5 = .ok (.iconst 0, 1) := by decide +kernel
theorem dX0_init_6 : decode cX0_init 6 = .ok (.putfield 7, 3) := by decide +kernel
theorem dX0_init_9 : decode cX0_init 9 = .ok (.aload_n 0, 1) := by decide +kernel
theorem dX0_init_10 : decode cX0_init 10 = .ok (.iconst 0, 1) := by decide +kernel
theorem dX0_init_11 : decode cX0_init 11 = .ok (.putfield 13, 3) := by decide +kernel
theorem dX0_init_14 : decode cX0_init 14 = .ok (.aload_n 0, 1) := by decide +kernel
theorem dX0_init_15 : decode cX0_init 15 = .ok (.iconst 0, 1) := by decide +kernel
theorem dX0_init_16 : decode cX0_init 16 = .ok (.putfield 16, 3) := by decide +kernel
theorem dX0_init_19 : decode cX0_init 19 = .ok (.aload_n 0, 1) := by decide +kernel
theorem dX0_init_20 : decode cX0_init 20 = .ok (.iconst 0, 1) := by decide +kernel
theorem dX0_init_21 : decode cX0_init 21 = .ok (.putfield 19, 3) := by decide +kernel
theorem dX0_init_24 : decode cX0_init 24 = .ok (.return_, 1) := by decide +kernel
theorem dX0_begin_0 : decode cX0_begin 0 = .ok (.aload_n 0, 1) := by decide +kernel
theorem dX0_begin_1 : decode cX0_begin 1 = .ok (.iload_n 1, 1) := by decide +kernel
theorem dX0_begin_2 : decode cX0_begin 2 = .ok (.putfield 7, 3) := by decide +kernel
theorem dX0_begin_5 : decode cX0_begin 5 = .ok (.aload_n 0, 1) := by decide +kernel
theorem dX0_begin_6 : decode cX0_begin 6 = .ok (.iload_n 1, 1) := by decide +kernel
theorem dX0_begin_7 : decode cX0_begin 7 = .ok (.putfield 16, 3) := by decide +kernel
theorem dX0_begin_10 : decode cX0_begin 10 = .ok (.aload_n 0, 1) := by decide +kernel
theorem dX0_begin_11 : decode cX0_begin 11 = .ok (.iload_n 2, 1) := by decide +kernel
theorem dX0_begin_12 : decode cX0_begin 12 = .ok (.putfield 13, 3) := by decide +kernel
theorem dX0_begin_15 : decode cX0_begin 15 = .ok (.aload_n 0, 1) := by decide +kernel
theorem dX0_begin_16 : decode cX0_begin 16 = .ok (.iload_n 2, 1) := by decide +kernel
theorem dX0_begin_17 : decode cX0_begin 17 = .ok (.putfield 19, 3) := by decide +kernel
theorem dX0_begin_20 : decode cX0_begin 20 = .ok (.return_, 1) := by decide +kernel
theorem dX0_take_0 : decode cX0_take 0 = .ok (.aload_n 0, 1) := by decide +kernel
theorem dX0_take_1 : decode cX0_take 1 = .ok (.iload_n 1, 1) := by decide +kernel
theorem dX0_take_2 : decode cX0_take 2 = .ok (.aload_n 0, 1) := by decide +kernel
theorem dX0_take_3 : decode cX0_take 3 = .ok (.getfield 7, 3) := by decide +kernel
theorem dX0_take_6 : decode cX0_take 6 = .ok (.if_icmp .ge 7, 3) := by decide +kernel
theorem dX0_take_9 : decode cX0_take 9 = .ok (.iload_n 1, 1) := by decide +kernel
theorem dX0_take_10 : decode cX0_take 10 = .ok (.goto 7, 3) := by decide +kernel
theorem dX0_take_13 : decode cX0_take 13 = .ok (.aload_n 0, 1) := by decide +kernel
theorem dX0_take_14 : decode cX0_take 14 = .ok (.getfield 7, 3) := by decide +kernel
theorem dX0_take_17 : decode cX0_take 17 = .ok (.putfield 7, 3) := by decide +kernel
theorem dX0_take_20 : decode cX0_take 20 = .ok (.aload_n 0, 1) := by decide +kernel
theorem dX0_take_21 : decode cX0_take 21 = .ok (.iload_n 1, 1) := by decide +kernel
theorem dX0_take_22 : decode cX0_take 22 = .ok (.aload_n 0, 1) := by decide +kernel
theorem dX0_take_23 : decode cX0_take 23 = .ok (.getfield 16, 3) := by decide +kernel
theorem dX0_take_26 : decode cX0_take 26 = .ok (.if_icmp .le 7, 3) := by decide +kernel
theorem dX0_take_29 : decode cX0_take 29 = .ok (.iload_n 1, 1) := by decide +kernel
theorem dX0_take_30 : decode cX0_take 30 = .ok (.goto 7, 3) := by decide +kernel
theorem dX0_take_33 : decode cX0_take 33 = .ok (.aload_n 0, 1) := by decide +kernel
theorem dX0_take_34 : decode cX0_take 34 = .ok (.getfield 16, 3) := by decide +kernel
theorem dX0_take_37 : decode cX0_take 37 = .ok (.putfield 16, 3) := by decide +kernel
theorem dX0_take_40 : decode cX0_take 40 = .ok (.aload_n 0, 1) := by decide +kernel
theorem dX0_take_41 : decode cX0_take 41 = .ok (.iload_n 2, 1) := by decide +kernel
theorem dX0_take_42 : decode cX0_take 42 = .ok (.aload_n 0, 1) := by decide +kernel
theorem dX0_take_43 : decode cX0_take 43 = .ok (.getfield 13, 3) := by decide +kernel
theorem dX0_take_46 : decode cX0_take 46 = .ok (.if_icmp .ge 7, 3) := by decide +kernel
theorem dX0_take_49 : decode cX0_take 49 = .ok (.iload_n 2, 1) := by decide +kernel
theorem dX0_take_50 : decode cX0_take 50 = .ok (.goto 7, 3) := by decide +kernel
theorem dX0_take_53 : decode cX0_take 53 = .ok (.aload_n 0, 1) := by decide +kernel
theorem dX0_take_54 : decode cX0_take 54 = .ok (.getfield 13, 3) := by decide +kernel
theorem dX0_take_57 : decode cX0_take 57 = .ok (.putfield 13, 3) := by decide +kernel
theorem dX0_take_60 : decode cX0_take 60 = .ok (.aload_n 0, 1) := by decide +kernel
theorem dX0_take_61 : decode cX0_take 61 = .ok (.iload_n 2, 1) := by decide +kernel
theorem dX0_take_62 : decode cX0_take 62 = .ok (.aload_n 0, 1) := by decide +kernel
theorem dX0_take_63 : decode cX0_take 63 = .ok (.getfield 19, 3) := by decide +kernel
theorem dX0_take_66 : decode cX0_take 66 = .ok (.if_icmp .le 7, 3) := by decide +kernel
theorem dX0_take_69 : decode cX0_take 69 = .ok (.iload_n 2, 1) := by decide +kernel
theorem dX0_take_70 : decode cX0_take 70 = .ok (.goto 7, 3) := by decide +kernel
theorem dX0_take_73 : decode cX0_take 73 = .ok (.aload_n 0, 1) := by decide +kernel
theorem dX0_take_74 : decode cX0_take 74 = .ok (.getfield 19, 3) := by decide +kernel
theorem dX0_take_77 : decode cX0_take 77 = .ok (.putfield 19, 3) := by decide +kernel
theorem dX0_take_80 : decode cX0_take 80 = .ok (.return_, 1) := by decide +kernel
theorem dX0_cover_0 : decode cX0_cover 0 = .ok (.aload_n 0, 1) := by decide +kernel
theorem dX0_cover_1 : decode cX0_cover 1 = .ok (.aload_n 1, 1) := by decide +kernel
theorem dX0_cover_2 : decode cX0_cover 2 = .ok (.getfield 22, 3) := by decide +kernel
theorem dX0_cover_5 : decode cX0_cover 5 = .ok (.iconst 0, 1) := by decide +kernel
theorem dX0_cover_6 : decode cX0_cover 6 = .ok (.iaload, 1) := by decide +kernel
theorem dX0_cover_7 : decode cX0_cover 7 = .ok (.aload_n 1, 1) := by decide +kernel
theorem dX0_cover_8 : decode cX0_cover 8 = .ok (.getfield 28, 3) := by decide +kernel
theorem dX0_cover_11 : decode cX0_cover 11 = .ok (.iconst 0, 1) := by decide +kernel
theorem dX0_cover_12 : decode cX0_cover 12 = .ok (.iaload, 1) := by decide +kernel
theorem dX0_cover_13 : decode cX0_cover 13 = .ok (.invokevirtual 31, 3) := by decide +kernel
theorem dX0_cover_16 : decode cX0_cover 16 = .ok (.aload_n 0, 1) := by decide +kernel
theorem dX0_cover_17 : decode cX0_cover 17 = .ok (.aload_n 1, 1) := by decide +kernel
theorem dX0_cover_18 : decode cX0_cover 18 = .ok (.invokevirtual 35, 3) := by decide +kernel
theorem dX0_cover_21 : decode cX0_cover 21 = .ok (.return_, 1) := by decide +kernel
theorem dX0_stretch_0 : decode cX0_stretch 0 = .ok (.iconst 0, 1) := by decide +kernel
theorem dX0_stretch_1 : decode cX0_stretch 1 = .ok (.istore_n 2, 1) := by decide +kernel
theorem dX0_stretch_2 : decode cX0_stretch 2 = .ok (.iload_n 2, 1) := by decide +kernel
theorem dX0_stretch_3 : decode cX0_stretch 3 = .ok (.aload_n 1, 1) := by decide +kernel
theorem dX0_stretch_4 : decode cX0_stretch 4 = .ok (.getfield 39, 3) := by decide +kernel
theorem dX0_stretch_7 : decode cX0_stretch 7 = .ok (.if_icmp .ge 25, 3) := by decide +kernel
theorem dX0_stretch_10 : decode cX0_stretch 10 = .ok (.aload_n 0, 1) := by decide +kernel
theorem dX0_stretch_11 : decode cX0_stretch 11 = .ok (.aload_n 1, 1) := by decide +kernel
theorem dX0_stretch_12 : decode cX0_stretch 12 = .ok (.getfield 22, 3) := by decide +kernel
theorem dX0_stretch_15 : decode cX0_stretch 15 = .ok (.iload_n 2, 1) := by decide +kernel
theorem dX0_stretch_16 : decode cX0_stretch 16 = .ok (.iaload, 1) := by decide +kernel
theorem dX0_stretch_17 : decode cX0_stretch 17 = .ok (.aload_n 1, 1) := by decide +kernel
theorem dX0_stretch_18 : decode cX0_stretch 18 = .ok (.getfield 28, 3) := by decide +kernel
theorem dX0_stretch_21 : decode cX0_stretch 21 = .ok (.iload_n 2, 1) := by decide +kernel
theorem dX0_stretch_22 : decode cX0_stretch 22 = .ok (.iaload, 1) := by decide +kernel
theorem dX0_stretch_23 : decode cX0_stretch 23 = .ok (.invokevirtual 42, 3) := by decide +kernel
theorem dX0_stretch_26 : decode cX0_stretch 26 = .ok (.iinc 2 1, 3) := by decide +kernel
theorem dX0_stretch_29 : decode cX0_stretch 29 = .ok (.goto (-27), 3) := by decide +kernel
theorem dX0_stretch_32 : decode cX0_stretch 32 = .ok (.return_, 1) := by decide +kernel
theorem dX0_isApart_0 : decode cX0_isApart 0 = .ok (.aload_n 0, 1) := by decide +kernel
theorem dX0_isApart_1 : decode cX0_isApart 1 = .ok (.aload_n 1, 1) := by decide +kernel
theorem dX0_isApart_2 : decode cX0_isApart 2 = .ok (.invokevirtual 45, 3) := by decide +kernel
theorem dX0_isApart_5 : decode cX0_isApart 5 = .ok (.ifCond .le 7, 3) := by decide +kernel
theorem dX0_isApart_8 : decode cX0_isApart 8 = .ok (.iconst 1, 1) := by decide +kernel
theorem dX0_isApart_9 : decode cX0_isApart 9 = .ok (.goto 4, 3) := by decide +kernel
theorem dX0_isApart_12 : decode cX0_isApart 12 = .ok (.iconst 0, 1) := by decide +kernel
theorem dX0_isApart_13 : decode cX0_isApart 13 = .ok (.ireturn, 1) := by decide +kernel
theorem dX0_squareApart_0 : decode cX0_squareApart 0 = .ok (.iconst 0, 1) := by decide +kernel
theorem dX0_squareApart_1 : decode cX0_squareApart 1 = .ok (.aload_n 1, 1) := by decide +kernel
theorem dX0_squareApart_2 : decode cX0_squareApart 2 = .ok (.getfield 7, 3) := by decide +kernel
theorem dX0_squareApart_5 : decode cX0_squareApart 5 = .ok (.aload_n 0, 1) := by decide +kernel
theorem dX0_squareApart_6 : decode cX0_squareApart 6 = .ok (.getfield 16, 3) := by decide +kernel
theorem dX0_squareApart_9 : decode cX0_squareApart 9 = .ok (.isub, 1) := by decide +kernel
theorem dX0_squareApart_10 : decode cX0_squareApart 10 = .ok (.aload_n 0, 1) := by decide +kernel
theorem dX0_squareApart_11 : decode cX0_squareApart 11 = .ok (.getfield 7, 3) := by decide +kernel
theorem dX0_squareApart_14 : decode cX0_squareApart 14 = .ok (.aload_n 1, 1) := by decide +kernel
theorem dX0_squareApart_15 : decode cX0_squareApart 15 = .ok (.getfield 16, 3) := by decide +kernel
theorem dX0_squareApart_18 : decode cX0_squareApart 18 = .ok (.isub, 1) := by decide +kernel
theorem dX0_squareApart_19 : decode cX0_squareApart 19 = .ok (.invokestatic 49, 3) := by decide +kernel
theorem dX0_squareApart_22 : decode cX0_squareApart 22 = .ok (.invokestatic 49, 3) := by decide +kernel
theorem dX0_squareApart_25 : decode cX0_squareApart 25 = .ok (.istore_n 2, 1) := by decide +kernel
theorem dX0_squareApart_26 : decode cX0_squareApart 26 = .ok (.iconst 0, 1) := by decide +kernel
theorem dX0_squareApart_27 : decode cX0_squareApart 27 = .ok (.aload_n 1, 1) := by decide +kernel
theorem dX0_squareApart_28 : decode cX0_squareApart 28 = .ok (.getfield 13, 3) := by decide +kernel
theorem dX0_squareApart_31 : decode cX0_squareApart 31 = .ok (.aload_n 0, 1) := by decide +kernel
theorem dX0_squareApart_32 : decode cX0_squareApart 32 = .ok (.getfield 19, 3) := by decide +kernel
theorem dX0_squareApart_35 : decode cX0_squareApart 35 = .ok (.isub, 1) := by decide +kernel
theorem dX0_squareApart_36 : decode cX0_squareApart 36 = .ok (.aload_n 0, 1) := by decide +kernel
theorem dX0_squareApart_37 : decode cX0_squareApart 37 = .ok (.getfield 13, 3) := by decide +kernel
theorem dX0_squareApart_40 : decode cX0_squareApart 40 = .ok (.aload_n 1, 1) := by decide +kernel
theorem dX0_squareApart_41 : decode cX0_squareApart 41 = .ok (.getfield 19, 3) := by decide +kernel
theorem dX0_squareApart_44 : decode cX0_squareApart 44 = .ok (.isub, 1) := by decide +kernel
theorem dX0_squareApart_45 : decode cX0_squareApart 45 = .ok (.invokestatic 49, 3) := by decide +kernel
theorem dX0_squareApart_48 : decode cX0_squareApart 48 = .ok (.invokestatic 49, 3) := by decide +kernel
theorem dX0_squareApart_51 : decode cX0_squareApart 51 = .ok (.istore_n 3, 1) := by decide +kernel
theorem dX0_squareApart_52 : decode cX0_squareApart 52 = .ok (.iload_n 2, 1) := by decide +kernel
theorem dX0_squareApart_53 : decode cX0_squareApart 53 = .ok (.iload_n 2, 1) := by decide +kernel
theorem dX0_squareApart_54 : decode cX0_squareApart 54 = .ok (.imul, 1) := by decide +kernel
theorem dX0_squareApart_55 : decode cX0_squareApart 55 = .ok (.iload_n 3, 1) := by decide +kernel
theorem dX0_squareApart_56 : decode cX0_squareApart 56 = .ok (.iload_n 3, 1) := by decide +kernel
theorem dX0_squareApart_57 : decode cX0_squareApart 57 = .ok (.imul, 1) := by decide +kernel
theorem dX0_squareApart_58 : decode cX0_squareApart 58 = .ok (.iadd, 1) := by decide +kernel
theorem dX0_squareApart_59 : decode cX0_squareApart 59 = .ok (.ireturn, 1) := by decide +kernel
theorem dX1_init_0 : decode cX1_init 0 = .ok (.aload_n 0, 1) := by decide +kernel
theorem dX1_init_1 : decode cX1_init 1 = .ok (.invokespecial 1, 3) := by decide +kernel
theorem dX1_init_4 : decode cX1_init 4 = .ok (.aload_n 0, 1) := by decide +kernel
theorem dX1_init_5 : decode cX1_init 5 = .ok (.aload_n 1, 1) := by decide +kernel
theorem dX1_init_6 : decode cX1_init 6 = .ok (.putfield 7, 3) := by decide +kernel
theorem dX1_init_9 : decode cX1_init 9 = .ok (.aload_n 0, 1) := by decide +kernel
theorem dX1_init_10 : decode cX1_init 10 = .ok (.aload_n 1, 1) := by decide +kernel
theorem dX1_init_11 : decode cX1_init 11 = .ok (.getfield 13, 3) := by decide +kernel
theorem dX1_init_14 : decode cX1_init 14 = .ok (.putfield 19, 3) := by decide +kernel
theorem dX1_init_17 : decode cX1_init 17 = .ok (.aload_n 0, 1) := by decide +kernel
theorem dX1_init_18 : decode cX1_init 18 = .ok (.aload_n 1, 1) := by decide +kernel
theorem dX1_init_19 : decode cX1_init 19 = .ok (.getfield 22, 3) := by decide +kernel
theorem dX1_init_22 : decode cX1_init 22 = .ok (.putfield 25, 3) := by decide +kernel
theorem dX1_init_25 : decode cX1_init 25 = .ok (.aload_n 0, 1) := by decide +kernel
theorem dX1_init_26 : decode cX1_init 26 = .ok (.aload_n 2, 1) := by decide +kernel
theorem dX1_init_27 : decode cX1_init 27 = .ok (.putfield 28, 3) := by decide +kernel
theorem dX1_init_30 : decode cX1_init 30 = .ok (.return_, 1) := by decide +kernel
theorem dX2_init_0 : decode cX2_init 0 = .ok (.aload_n 0, 1) := by decide +kernel
theorem dX2_init_1 : decode cX2_init 1 = .ok (.invokespecial 3, 3) := by decide +kernel
theorem dX2_init_4 : decode cX2_init 4 = .ok (.aload_n 0, 1) := by decide +kernel
theorem dX2_init_5 : decode cX2_init 5 = .ok (.iconst (-1), 1) := by decide +kernel
theorem dX2_init_6 : decode cX2_init 6 = .ok (.putfield 9, 3) := by decide +kernel
theorem dX2_init_9 : decode cX2_init 9 = .ok (.aload_n 0, 1) := by decide +kernel
theorem dX2_init_10 : decode cX2_init 10 = .ok (.iconst (-1), 1) := by decide +kernel
theorem dX2_init_11 : decode cX2_init 11 = .ok (.putfield 15, 3) := by decide +kernel
theorem dX2_init_14 : decode cX2_init 14 = .ok (.aload_n 0, 1) := by decide +kernel
theorem dX2_init_15 : decode cX2_init 15 = .ok (.aconst_null, 1) := by decide +kernel
theorem dX2_init_16 : decode cX2_init 16 = .ok (.putfield 18, 3) := by decide +kernel
theorem dX2_init_19 : decode cX2_init 19 = .ok (.aload_n 0, 1) := by decide +kernel
theorem dX2_init_20 : decode cX2_init 20 = .ok (.iload_n 2, 1) := by decide +kernel
theorem dX2_init_21 : decode cX2_init 21 = .ok (.putfield 22, 3) := by decide +kernel
theorem dX2_init_24 : decode cX2_init 24 = .ok (.aload_n 0, 1) := by decide +kernel
theorem dX2_init_25 : decode cX2_init 25 = .ok (.iload_n 3, 1) := by decide +kernel
theorem dX2_init_26 : decode cX2_init 26 = .ok (.putfield 25, 3) := by decide +kernel
theorem dX2_init_29 : decode cX2_init 29 = .ok (.aload_n 0, 1) := by decide +kernel
theorem dX2_init_30 : decode cX2_init 30 = .ok (.iload 4, 2) := by decide +kernel
theorem dX2_init_32 : decode cX2_init 32 = .ok (.putfield 28, 3) := by decide +kernel
theorem dX2_init_35 : decode cX2_init 35 = .ok (.aload_n 0, 1) := by decide +kernel
theorem dX2_init_36 : decode cX2_init 36 = .ok (.new 31, 3) := by decide +kernel
theorem dX2_init_39 : decode cX2_init 39 = .ok (.dup, 1) := by decide +kernel
theorem dX2_init_40 : decode cX2_init 40 = .ok (.iload_n 1, 1) := by decide +kernel
theorem dX2_init_41 : decode cX2_init 41 = .ok (.ifCond .le 13, 3) := by decide +kernel
theorem dX2_init_44 : decode cX2_init 44 = .ok (.iload_n 1, 1) := by decide +kernel
theorem dX2_init_45 : decode cX2_init 45 = .ok (.iconst 5, 1) := by decide +kernel
theorem dX2_init_46 : decode cX2_init 46 = .ok (.if_icmp .gt 8, 3) := by decide +kernel
theorem dX2_init_49 : decode cX2_init 49 = .ok (.bipush 40, 2) := by decide +kernel
theorem dX2_init_51 : decode cX2_init 51 = .ok (.goto 4, 3) := by decide +kernel
theorem dX2_init_54 : decode cX2_init 54 = .ok (.iconst 1, 1) := by decide +kernel
theorem dX2_init_55 : decode cX2_init 55 = .ok (.iconst 0, 1) := by decide +kernel
theorem dX2_init_56 : decode cX2_init 56 = .ok (.invokespecial 33, 3) := by decide +kernel
theorem dX2_init_59 : decode cX2_init 59 = .ok (.putfield 36, 3) := by decide +kernel
theorem dX2_init_62 : decode cX2_init 62 = .ok (.aload_n 0, 1) := by decide +kernel
theorem dX2_init_63 : decode cX2_init 63 = .ok (.new 40, 3) := by decide +kernel
theorem dX2_init_66 : decode cX2_init 66 = .ok (.dup, 1) := by decide +kernel
theorem dX2_init_67 : decode cX2_init 67 = .ok (.iload_n 1, 1) := by decide +kernel
theorem dX2_init_68 : decode cX2_init 68 = .ok (.invokespecial 42, 3) := by decide +kernel
theorem dX2_init_71 : decode cX2_init 71 = .ok (.putfield 45, 3) := by decide +kernel
theorem dX2_init_74 : decode cX2_init 74 = .ok (.return_, 1) := by decide +kernel
theorem dX2_bends_0 : decode cX2_bends 0 = .ok (.aload_n 0, 1) := by decide +kernel
theorem dX2_bends_1 : decode cX2_bends 1 = .ok (.getfield 45, 3) := by decide +kernel
theorem dX2_bends_4 : decode cX2_bends 4 = .ok (.getfield 48, 3) := by decide +kernel
theorem dX2_bends_7 : decode cX2_bends 7 = .ok (.ifCond .le 18, 3) := by decide +kernel
theorem dX2_bends_10 : decode cX2_bends 10 = .ok (.aload_n 0, 1) := by decide +kernel
theorem dX2_bends_11 : decode cX2_bends 11 = .ok (.getfield 45, 3) := by decide +kernel
theorem dX2_bends_14 : decode cX2_bends 14 = .ok (.getfield 48, 3) := by decide +kernel
theorem dX2_bends_17 : decode cX2_bends 17 = .ok (.iconst 5, 1) := by decide +kernel
theorem dX2_bends_18 : decode cX2_bends 18 = .ok (.if_icmp .gt 7, 3) := by decide +kernel
theorem dX2_bends_21 : decode cX2_bends 21 = .ok (.iconst 1, 1) := by decide +kernel
theorem dX2_bends_22 : decode cX2_bends 22 = .ok (.goto 4, 3) := by decide +kernel
theorem dX2_bends_25 : decode cX2_bends 25 = .ok (.iconst 0, 1) := by decide +kernel
theorem dX2_bends_26 : decode cX2_bends 26 = .ok (.ireturn, 1) := by decide +kernel
theorem dX2_mayHaveCorner_0 : decode cX2_mayHaveCorner 0 = .ok (.iload_n 1, 1) := by decide +kernel
theorem dX2_mayHaveCorner_1 : decode cX2_mayHaveCorner 1 = .ok (.ifCond .lt 31, 3) := by decide +kernel
theorem dX2_mayHaveCorner_4 : decode cX2_mayHaveCorner 4 = .ok (.aload_n 0, 1) := by decide +kernel
theorem dX2_mayHaveCorner_5 : decode cX2_mayHaveCorner 5 = .ok (.getfield 45, 3) := by decide +kernel
theorem dX2_mayHaveCorner_8 : decode cX2_mayHaveCorner 8 = .ok (.getfield 51, 3) := by decide +kernel
theorem dX2_mayHaveCorner_11 : decode cX2_mayHaveCorner 11 = .ok (.ifnull 17, 3) := by decide +kernel
theorem dX2_mayHaveCorner_14 : decode cX2_mayHaveCorner 14 = .ok (.iload_n 1, 1) := by decide +kernel
theorem dX2_mayHaveCorner_15 : decode cX2_mayHaveCorner 15 = .ok (.aload_n 0, 1) := by decide +kernel
theorem dX2_mayHaveCorner_16 : decode cX2_mayHaveCorner 16 = .ok (.getfield 45, 3) := by decide +kernel
theorem dX2_mayHaveCorner_19 : decode cX2_mayHaveCorner 19 = .ok (.getfield 51, 3) := by decide +kernel
theorem dX2_mayHaveCorner_22 : decode cX2_mayHaveCorner 22 = .ok (.getfield 54, 3) := by decide +kernel
theorem dX2_mayHaveCorner_25 : decode cX2_mayHaveCorner 25 = .ok (.if_icmp .ge 7, 3) := by decide +kernel
theorem dX2_mayHaveCorner_28 : decode cX2_mayHaveCorner 28 = .ok (.iconst 1, 1) := by decide +kernel
theorem dX2_mayHaveCorner_29 : decode cX2_mayHaveCorner 29 = .ok (.goto 4, 3) := by decide +kernel
theorem dX2_mayHaveCorner_32 : decode cX2_mayHaveCorner 32 = .ok (.iconst 0, 1) := by decide +kernel
theorem dX2_mayHaveCorner_33 : decode cX2_mayHaveCorner 33 = .ok (.ireturn, 1) := by decide +kernel
theorem dX2_keepFormer_0 : decode cX2_keepFormer 0 = .ok (.aload_n 0, 1) := by decide +kernel
theorem dX2_keepFormer_1 : decode cX2_keepFormer 1 = .ok (.getfield 18, 3) := by decide +kernel
theorem dX2_keepFormer_4 : decode cX2_keepFormer 4 = .ok (.ifnonnull 22, 3) := by decide +kernel
theorem dX2_keepFormer_7 : decode cX2_keepFormer 7 = .ok (.aload_n 0, 1) := by decide +kernel
theorem dX2_keepFormer_8 : decode cX2_keepFormer 8 = .ok (.aload_n 0, 1) := by decide +kernel
theorem dX2_keepFormer_9 : decode cX2_keepFormer 9 = .ok (.getfield 45, 3) := by decide +kernel
theorem dX2_keepFormer_12 : decode cX2_keepFormer 12 = .ok (.putfield 18, 3) := by decide +kernel
theorem dX2_keepFormer_15 : decode cX2_keepFormer 15 = .ok (.aload_n 0, 1) := by decide +kernel
theorem dX2_keepFormer_16 : decode cX2_keepFormer 16 = .ok (.aload_n 0, 1) := by decide +kernel
theorem dX2_keepFormer_17 : decode cX2_keepFormer 17 = .ok (.getfield 18, 3) := by decide +kernel
theorem dX2_keepFormer_20 : decode cX2_keepFormer 20 = .ok (.invokevirtual 57, 3) := by decide +kernel
theorem dX2_keepFormer_23 : decode cX2_keepFormer 23 = .ok (.putfield 45, 3) := by decide +kernel
theorem dX2_keepFormer_26 : decode cX2_keepFormer 26 = .ok (.return_, 1) := by decide +kernel
theorem dX2_leave_0 : decode cX2_leave 0 = .ok (.aload_n 0, 1) := by decide +kernel
theorem dX2_leave_1 : decode cX2_leave 1 = .ok (.invokevirtual 61, 3) := by decide +kernel
theorem dX2_leave_4 : decode cX2_leave 4 = .ok (.aload_n 0, 1) := by decide +kernel
theorem dX2_leave_5 : decode cX2_leave 5 = .ok (.getfield 45, 3) := by decide +kernel
theorem dX2_leave_8 : decode cX2_leave 8 = .ok (.iconst 2, 1) := by decide +kernel
theorem dX2_leave_9 : decode cX2_leave 9 = .ok (.putfield 64, 3) := by decide +kernel
theorem dX2_leave_12 : decode cX2_leave 12 = .ok (.aload_n 0, 1) := by decide +kernel
theorem dX2_leave_13 : decode cX2_leave 13 = .ok (.getfield 45, 3) := by decide +kernel
theorem dX2_leave_16 : decode cX2_leave 16 = .ok (.iload_n 1, 1) := by decide +kernel
theorem dX2_leave_17 : decode cX2_leave 17 = .ok (.putfield 67, 3) := by decide +kernel
theorem dX2_leave_20 : decode cX2_leave 20 = .ok (.return_, 1) := by decide +kernel
theorem dX2_reshape_0 : decode cX2_reshape 0 = .ok (.aload_n 0, 1) := by decide +kernel
theorem dX2_reshape_1 : decode cX2_reshape 1 = .ok (.invokevirtual 61, 3) := by decide +kernel
theorem dX2_reshape_4 : decode cX2_reshape 4 = .ok (.aload_n 0, 1) := by decide +kernel
theorem dX2_reshape_5 : decode cX2_reshape 5 = .ok (.getfield 45, 3) := by decide +kernel
theorem dX2_reshape_8 : decode cX2_reshape 8 = .ok (.aload_n 1, 1) := by decide +kernel
theorem dX2_reshape_9 : decode cX2_reshape 9 = .ok (.invokevirtual 70, 3) := by decide +kernel
theorem dX2_reshape_12 : decode cX2_reshape 12 = .ok (.putfield 51, 3) := by decide +kernel
theorem dX2_reshape_15 : decode cX2_reshape 15 = .ok (.return_, 1) := by decide +kernel
theorem dX2_lose_0 : decode cX2_lose 0 = .ok (.aload_n 0, 1) := by decide +kernel
theorem dX2_lose_1 : decode cX2_lose 1 = .ok (.getfield 45, 3) := by decide +kernel
theorem dX2_lose_4 : decode cX2_lose 4 = .ok (.getfield 51, 3) := by decide +kernel
theorem dX2_lose_7 : decode cX2_lose 7 = .ok (.ifnull 21, 3) := by decide +kernel
theorem dX2_lose_10 : decode cX2_lose 10 = .ok (.iload_n 1, 1) := by decide +kernel
theorem dX2_lose_11 : decode cX2_lose 11 = .ok (.ifCond .lt 17, 3) := by decide +kernel
theorem dX2_lose_14 : decode cX2_lose 14 = .ok (.iload_n 1, 1) := by decide +kernel
theorem dX2_lose_15 : decode cX2_lose 15 = .ok (.aload_n 0, 1) := by decide +kernel
theorem dX2_lose_16 : decode cX2_lose 16 = .ok (.getfield 45, 3) := by decide +kernel
theorem dX2_lose_19 : decode cX2_lose 19 = .ok (.getfield 51, 3) := by decide +kernel
theorem dX2_lose_22 : decode cX2_lose 22 = .ok (.getfield 54, 3) := by decide +kernel
theorem dX2_lose_25 : decode cX2_lose 25 = .ok (.if_icmp .lt 4, 3) := by decide +kernel
theorem dX2_lose_29 : decode cX2_lose 29 = .ok (.aload_n 0, 1) := by decide +kernel
theorem dX2_lose_30 : decode cX2_lose 30 = .ok (.getfield 18, 3) := by decide +kernel
theorem dX2_lose_33 : decode cX2_lose 33 = .ok (.ifnonnull 14, 3) := by decide +kernel
theorem dX2_lose_36 : decode cX2_lose 36 = .ok (.aload_n 0, 1) := by decide +kernel
theorem dX2_lose_37 : decode cX2_lose 37 = .ok (.aload_n 0, 1) := by decide +kernel
theorem dX2_lose_38 : decode cX2_lose 38 = .ok (.getfield 45, 3) := by decide +kernel
theorem dX2_lose_41 : decode cX2_lose 41 = .ok (.getfield 51, 3) := by decide +kernel
theorem dX2_lose_44 : decode cX2_lose 44 = .ok (.invokevirtual 73, 3) := by decide +kernel
theorem dX2_lose_47 : decode cX2_lose 47 = .ok (.aload_n 0, 1) := by decide +kernel
theorem dX2_lose_48 : decode cX2_lose 48 = .ok (.getfield 36, 3) := by decide +kernel
theorem dX2_lose_51 : decode cX2_lose 51 = .ok (.aload_n 0, 1) := by decide +kernel
theorem dX2_lose_52 : decode cX2_lose 52 = .ok (.getfield 45, 3) := by decide +kernel
theorem dX2_lose_55 : decode cX2_lose 55 = .ok (.getfield 77, 3) := by decide +kernel
theorem dX2_lose_58 : decode cX2_lose 58 = .ok (.putfield 54, 3) := by decide +kernel
theorem dX2_lose_61 : decode cX2_lose 61 = .ok (.aload_n 0, 1) := by decide +kernel
theorem dX2_lose_62 : decode cX2_lose 62 = .ok (.getfield 36, 3) := by decide +kernel
theorem dX2_lose_65 : decode cX2_lose 65 = .ok (.aload_n 0, 1) := by decide +kernel
theorem dX2_lose_66 : decode cX2_lose 66 = .ok (.getfield 45, 3) := by decide +kernel
theorem dX2_lose_69 : decode cX2_lose 69 = .ok (.getfield 51, 3) := by decide +kernel
theorem dX2_lose_72 : decode cX2_lose 72 = .ok (.getfield 80, 3) := by decide +kernel
theorem dX2_lose_75 : decode cX2_lose 75 = .ok (.iload_n 1, 1) := by decide +kernel
theorem dX2_lose_76 : decode cX2_lose 76 = .ok (.iaload, 1) := by decide +kernel
theorem dX2_lose_77 : decode cX2_lose 77 = .ok (.aload_n 0, 1) := by decide +kernel
theorem dX2_lose_78 : decode cX2_lose 78 = .ok (.getfield 45, 3) := by decide +kernel
theorem dX2_lose_81 : decode cX2_lose 81 = .ok (.getfield 51, 3) := by decide +kernel
theorem dX2_lose_84 : decode cX2_lose 84 = .ok (.getfield 84, 3) := by decide +kernel
theorem dX2_lose_87 : decode cX2_lose 87 = .ok (.iload_n 1, 1) := by decide +kernel
theorem dX2_lose_88 : decode cX2_lose 88 = .ok (.iaload, 1) := by decide +kernel
theorem dX2_lose_89 : decode cX2_lose 89 = .ok (.invokevirtual 87, 3) := by decide +kernel
theorem dX2_lose_92 : decode cX2_lose 92 = .ok (.aload_n 0, 1) := by decide +kernel
theorem dX2_lose_93 : decode cX2_lose 93 = .ok (.getfield 45, 3) := by decide +kernel
theorem dX2_lose_96 : decode cX2_lose 96 = .ok (.aload_n 0, 1) := by decide +kernel
theorem dX2_lose_97 : decode cX2_lose 97 = .ok (.getfield 36, 3) := by decide +kernel
theorem dX2_lose_100 : decode cX2_lose 100 = .ok (.getfield 54, 3) := by decide +kernel
theorem dX2_lose_103 : decode cX2_lose 103 = .ok (.putfield 77, 3) := by decide +kernel
theorem dX2_lose_106 : decode cX2_lose 106 = .ok (.aload_n 0, 1) := by decide +kernel
theorem dX2_lose_107 : decode cX2_lose 107 = .ok (.getfield 45, 3) := by decide +kernel
theorem dX2_lose_110 : decode cX2_lose 110 = .ok (.getfield 51, 3) := by decide +kernel
theorem dX2_lose_113 : decode cX2_lose 113 = .ok (.iload_n 1, 1) := by decide +kernel
theorem dX2_lose_114 : decode cX2_lose 114 = .ok (.invokevirtual 91, 3) := by decide +kernel
theorem dX2_lose_117 : decode cX2_lose 117 = .ok (.return_, 1) := by decide +kernel
theorem dX3_init_0 : decode cX3_init 0 = .ok (.aload_n 0, 1) := by decide +kernel
theorem dX3_init_1 : decode cX3_init 1 = .ok (.invokespecial 1, 3) := by decide +kernel
theorem dX3_init_4 : decode cX3_init 4 = .ok (.aload_n 0, 1) := by decide +kernel
theorem dX3_init_5 : decode cX3_init 5 = .ok (.lconst 0, 1) := by decide +kernel
theorem dX3_init_6 : decode cX3_init 6 = .ok (.putfield 7, 3) := by decide +kernel
theorem dX3_init_9 : decode cX3_init 9 = .ok (.aload_n 0, 1) := by decide +kernel
theorem dX3_init_10 : decode cX3_init 10 = .ok (.lconst 0, 1) := by decide +kernel
theorem dX3_init_11 : decode cX3_init 11 = .ok (.putfield 13, 3) := by decide +kernel
theorem dX3_init_14 : decode cX3_init 14 = .ok (.return_, 1) := by decide +kernel
theorem dX3_clear_0 : decode cX3_clear 0 = .ok (.aload_n 0, 1) := by decide +kernel
theorem dX3_clear_1 : decode cX3_clear 1 = .ok (.lconst 0, 1) := by decide +kernel
theorem dX3_clear_2 : decode cX3_clear 2 = .ok (.lconst 0, 1) := by decide +kernel
theorem dX3_clear_3 : decode cX3_clear 3 = .ok (.invokevirtual 16, 3) := by decide +kernel
theorem dX3_clear_6 : decode cX3_clear 6 = .ok (.return_, 1) := by decide +kernel
theorem dX3_become_0 : decode cX3_become 0 = .ok (.aload_n 0, 1) := by decide +kernel
theorem dX3_become_1 : decode cX3_become 1 = .ok (.lload_n 1, 1) := by decide +kernel
theorem dX3_become_2 : decode cX3_become 2 = .ok (.putfield 7, 3) := by decide +kernel
theorem dX3_become_5 : decode cX3_become 5 = .ok (.aload_n 0, 1) := by decide +kernel
theorem dX3_become_6 : decode cX3_become 6 = .ok (.lload_n 3, 1) := by decide +kernel
theorem dX3_become_7 : decode cX3_become 7 = .ok (.putfield 13, 3) := by decide +kernel
theorem dX3_become_10 : decode cX3_become 10 = .ok (.return_, 1) := by decide +kernel
theorem dX3_isBelow_0 : decode cX3_isBelow 0 = .ok (.aload_n 0, 1) := by decide +kernel
theorem dX3_isBelow_1 : decode cX3_isBelow 1 = .ok (.getfield 7, 3) := by decide +kernel
theorem dX3_isBelow_4 : decode cX3_isBelow 4 = .ok (.aload_n 1, 1) := by decide +kernel
theorem dX3_isBelow_5 : decode cX3_isBelow 5 = .ok (.getfield 13, 3) := by decide +kernel
theorem dX3_isBelow_8 : decode cX3_isBelow 8 = .ok (.lmul, 1) := by decide +kernel
theorem dX3_isBelow_9 : decode cX3_isBelow 9 = .ok (.aload_n 1, 1) := by decide +kernel
theorem dX3_isBelow_10 : decode cX3_isBelow 10 = .ok (.getfield 7, 3) := by decide +kernel
theorem dX3_isBelow_13 : decode cX3_isBelow 13 = .ok (.aload_n 0, 1) := by decide +kernel
theorem dX3_isBelow_14 : decode cX3_isBelow 14 = .ok (.getfield 13, 3) := by decide +kernel
theorem dX3_isBelow_17 : decode cX3_isBelow 17 = .ok (.lmul, 1) := by decide +kernel
theorem dX3_isBelow_18 : decode cX3_isBelow 18 = .ok (.lcmp, 1) := by decide +kernel
theorem dX3_isBelow_19 : decode cX3_isBelow 19 = .ok (.ifCond .ge 7, 3) := by decide +kernel
theorem dX3_isBelow_22 : decode cX3_isBelow 22 = .ok (.iconst 1, 1) := by decide +kernel
theorem dX3_isBelow_23 : decode cX3_isBelow 23 = .ok (.goto 4, 3) := by decide +kernel
theorem dX3_isBelow_26 : decode cX3_isBelow 26 = .ok (.iconst 0, 1) := by decide +kernel
theorem dX3_isBelow_27 : decode cX3_isBelow 27 = .ok (.ireturn, 1) := by decide +kernel
theorem dX3_isOver_0 : decode cX3_isOver 0 = .ok (.aload_n 0, 1) := by decide +kernel
theorem dX3_isOver_1 : decode cX3_isOver 1 = .ok (.getfield 7, 3) := by decide +kernel
theorem dX3_isOver_4 : decode cX3_isOver 4 = .ok (.iload_n 1, 1) := by decide +kernel
theorem dX3_isOver_5 : decode cX3_isOver 5 = .ok (.i2l, 1) := by decide +kernel
theorem dX3_isOver_6 : decode cX3_isOver 6 = .ok (.iload_n 1, 1) := by decide +kernel
theorem dX3_isOver_7 : decode cX3_isOver 7 = .ok (.i2l, 1) := by decide +kernel
theorem dX3_isOver_8 : decode cX3_isOver 8 = .ok (.lmul, 1) := by decide +kernel
theorem dX3_isOver_9 : decode cX3_isOver 9 = .ok (.aload_n 0, 1) := by decide +kernel
theorem dX3_isOver_10 : decode cX3_isOver 10 = .ok (.getfield 13, 3) := by decide +kernel
theorem dX3_isOver_13 : decode cX3_isOver 13 = .ok (.lmul, 1) := by decide +kernel
theorem dX3_isOver_14 : decode cX3_isOver 14 = .ok (.lcmp, 1) := by decide +kernel
theorem dX3_isOver_15 : decode cX3_isOver 15 = .ok (.ifCond .le 7, 3) := by decide +kernel
theorem dX3_isOver_18 : decode cX3_isOver 18 = .ok (.iconst 1, 1) := by decide +kernel
theorem dX3_isOver_19 : decode cX3_isOver 19 = .ok (.goto 4, 3) := by decide +kernel
theorem dX3_isOver_22 : decode cX3_isOver 22 = .ok (.iconst 0, 1) := by decide +kernel
theorem dX3_isOver_23 : decode cX3_isOver 23 = .ok (.ireturn, 1) := by decide +kernel
theorem dX3_isHalfBelow_0 : decode cX3_isHalfBelow 0 = .ok (.ldc2_w 20, 3) := by decide +kernel
theorem dX3_isHalfBelow_3 : decode cX3_isHalfBelow 3 = .ok (.aload_n 0, 1) := by decide +kernel
theorem dX3_isHalfBelow_4 : decode cX3_isHalfBelow 4 = .ok (.getfield 7, 3) := by decide +kernel
theorem dX3_isHalfBelow_7 : decode cX3_isHalfBelow 7 = .ok (.lmul, 1) := by decide +kernel
theorem dX3_isHalfBelow_8 : decode cX3_isHalfBelow 8 = .ok (.iload_n 1, 1) := by decide +kernel
theorem dX3_isHalfBelow_9 : decode cX3_isHalfBelow 9 = .ok (.i2l, 1) := by decide +kernel
theorem dX3_isHalfBelow_10 : decode cX3_isHalfBelow 10 = .ok (.iload_n 1, 1) := by decide +kernel
theorem dX3_isHalfBelow_11 : decode cX3_isHalfBelow 11 = .ok (.i2l, 1) := by decide +kernel
theorem dX3_isHalfBelow_12 : decode cX3_isHalfBelow 12 = .ok (.lmul, 1) := by decide +kernel
theorem dX3_isHalfBelow_13 : decode cX3_isHalfBelow 13 = .ok (.aload_n 0, 1) := by decide +kernel
theorem dX3_isHalfBelow_14 : decode cX3_isHalfBelow 14 = .ok (.getfield 13, 3) := by decide +kernel
theorem dX3_isHalfBelow_17 : decode cX3_isHalfBelow 17 = .ok (.lmul, 1) := by decide +kernel
theorem dX3_isHalfBelow_18 : decode cX3_isHalfBelow 18 = .ok (.lcmp, 1) := by decide +kernel
theorem dX3_isHalfBelow_19 : decode cX3_isHalfBelow 19 = .ok (.ifCond .ge 7, 3) := by decide +kernel
theorem dX3_isHalfBelow_22 : decode cX3_isHalfBelow 22 = .ok (.iconst 1, 1) := by decide +kernel
theorem dX3_isHalfBelow_23 : decode cX3_isHalfBelow 23 = .ok (.goto 4, 3) := by decide +kernel
theorem dX3_isHalfBelow_26 : decode cX3_isHalfBelow 26 = .ok (.iconst 0, 1) := by decide +kernel
theorem dX3_isHalfBelow_27 : decode cX3_isHalfBelow 27 = .ok (.ireturn, 1) := by decide +kernel
theorem dX3_offer_0 : decode cX3_offer 0 = .ok (.aload_n 0, 1) := by decide +kernel
theorem dX3_offer_1 : decode cX3_offer 1 = .ok (.getfield 13, 3) := by decide +kernel
theorem dX3_offer_4 : decode cX3_offer 4 = .ok (.lconst 0, 1) := by decide +kernel
theorem dX3_offer_5 : decode cX3_offer 5 = .ok (.lcmp, 1) := by decide +kernel
theorem dX3_offer_6 : decode cX3_offer 6 = .ok (.ifCond .eq 19, 3) := by decide +kernel
theorem dX3_offer_9 : decode cX3_offer 9 = .ok (.lload_n 1, 1) := by decide +kernel
theorem dX3_offer_10 : decode cX3_offer 10 = .ok (.aload_n 0, 1) := by decide +kernel
theorem dX3_offer_11 : decode cX3_offer 11 = .ok (.getfield 13, 3) := by decide +kernel
theorem dX3_offer_14 : decode cX3_offer 14 = .ok (.lmul, 1) := by decide +kernel
theorem dX3_offer_15 : decode cX3_offer 15 = .ok (.aload_n 0, 1) := by decide +kernel
theorem dX3_offer_16 : decode cX3_offer 16 = .ok (.getfield 7, 3) := by decide +kernel
theorem dX3_offer_19 : decode cX3_offer 19 = .ok (.lload_n 3, 1) := by decide +kernel
theorem dX3_offer_20 : decode cX3_offer 20 = .ok (.lmul, 1) := by decide +kernel
theorem dX3_offer_21 : decode cX3_offer 21 = .ok (.lcmp, 1) := by decide +kernel
theorem dX3_offer_22 : decode cX3_offer 22 = .ok (.ifCond .ge 13, 3) := by decide +kernel
theorem dX3_offer_25 : decode cX3_offer 25 = .ok (.aload_n 0, 1) := by decide +kernel
theorem dX3_offer_26 : decode cX3_offer 26 = .ok (.lload_n 1, 1) := by decide +kernel
theorem dX3_offer_27 : decode cX3_offer 27 = .ok (.putfield 7, 3) := by decide +kernel
theorem dX3_offer_30 : decode cX3_offer 30 = .ok (.aload_n 0, 1) := by decide +kernel
theorem dX3_offer_31 : decode cX3_offer 31 = .ok (.lload_n 3, 1) := by decide +kernel
theorem dX3_offer_32 : decode cX3_offer 32 = .ok (.putfield 13, 3) := by decide +kernel
theorem dX3_offer_35 : decode cX3_offer 35 = .ok (.return_, 1) := by decide +kernel
theorem dX3_offerFrom_0 : decode cX3_offerFrom 0 = .ok (.iconst 0, 1) := by decide +kernel
theorem dX3_offerFrom_1 : decode cX3_offerFrom 1 = .ok (.istore 4, 2) := by decide +kernel
theorem dX3_offerFrom_3 : decode cX3_offerFrom 3 = .ok (.iload 4, 2) := by decide +kernel
theorem dX3_offerFrom_5 : decode cX3_offerFrom 5 = .ok (.aload_n 3, 1) := by decide +kernel
theorem dX3_offerFrom_6 : decode cX3_offerFrom 6 = .ok (.invokevirtual 22, 3) := by decide +kernel
theorem dX3_offerFrom_9 : decode cX3_offerFrom 9 = .ok (.if_icmp .ge 18, 3) := by decide +kernel
theorem dX3_offerFrom_12 : decode cX3_offerFrom 12 = .ok (.aload_n 0, 1) := by decide +kernel
theorem dX3_offerFrom_13 : decode cX3_offerFrom 13 = .ok (.iload_n 1, 1) := by decide +kernel
theorem dX3_offerFrom_14 : decode cX3_offerFrom 14 = .ok (.iload_n 2, 1) := by decide +kernel
theorem dX3_offerFrom_15 : decode cX3_offerFrom 15 = .ok (.aload_n 3, 1) := by decide +kernel
theorem dX3_offerFrom_16 : decode cX3_offerFrom 16 = .ok (.iload 4, 2) := by decide +kernel
theorem dX3_offerFrom_18 : decode cX3_offerFrom 18 = .ok (.invokevirtual 28, 3) := by decide +kernel
theorem dX3_offerFrom_21 : decode cX3_offerFrom 21 = .ok (.iinc 4 1, 3) := by decide +kernel
theorem dX3_offerFrom_24 : decode cX3_offerFrom 24 = .ok (.goto (-21), 3) := by decide +kernel
theorem dX3_offerFrom_27 : decode cX3_offerFrom 27 = .ok (.return_, 1) := by decide +kernel
theorem dX3_offerPart_0 : decode cX3_offerPart 0 = .ok (.aload_n 3, 1) := by decide +kernel
theorem dX3_offerPart_1 : decode cX3_offerPart 1 = .ok (.iload 4, 2) := by decide +kernel
theorem dX3_offerPart_3 : decode cX3_offerPart 3 = .ok (.invokevirtual 32, 3) := by decide +kernel
theorem dX3_offerPart_6 : decode cX3_offerPart 6 = .ok (.istore 5, 2) := by decide +kernel
theorem dX3_offerPart_8 : decode cX3_offerPart 8 = .ok (.aload_n 3, 1) := by decide +kernel
theorem dX3_offerPart_9 : decode cX3_offerPart 9 = .ok (.getfield 36, 3) := by decide +kernel
theorem dX3_offerPart_12 : decode cX3_offerPart 12 = .ok (.iload 5, 2) := by decide +kernel
theorem dX3_offerPart_14 : decode cX3_offerPart 14 = .ok (.iaload, 1) := by decide +kernel
theorem dX3_offerPart_15 : decode cX3_offerPart 15 = .ok (.aload_n 3, 1) := by decide +kernel
theorem dX3_offerPart_16 : decode cX3_offerPart 16 = .ok (.getfield 36, 3) := by decide +kernel
theorem dX3_offerPart_19 : decode cX3_offerPart 19 = .ok (.iload 4, 2) := by decide +kernel
theorem dX3_offerPart_21 : decode cX3_offerPart 21 = .ok (.iaload, 1) := by decide +kernel
theorem dX3_offerPart_22 : decode cX3_offerPart 22 = .ok (.isub, 1) := by decide +kernel
theorem dX3_offerPart_23 : decode cX3_offerPart 23 = .ok (.istore 6, 2) := by decide +kernel
theorem dX3_offerPart_25 : decode cX3_offerPart 25 = .ok (.aload_n 3, 1) := by decide +kernel
theorem dX3_offerPart_26 : decode cX3_offerPart 26 = .ok (.getfield 40, 3) := by decide +kernel
theorem dX3_offerPart_29 : decode cX3_offerPart 29 = .ok (.iload 5, 2) := by decide +kernel
theorem dX3_offerPart_31 : decode cX3_offerPart 31 = .ok (.iaload, 1) := by decide +kernel
theorem dX3_offerPart_32 : decode cX3_offerPart 32 = .ok (.aload_n 3, 1) := by decide +kernel
theorem dX3_offerPart_33 : decode cX3_offerPart 33 = .ok (.getfield 40, 3) := by decide +kernel
theorem dX3_offerPart_36 : decode cX3_offerPart 36 = .ok (.iload 4, 2) := by decide +kernel
theorem dX3_offerPart_38 : decode cX3_offerPart 38 = .ok (.iaload, 1) := by decide +kernel
theorem dX3_offerPart_39 : decode cX3_offerPart 39 = .ok (.isub, 1) := by decide +kernel
theorem dX3_offerPart_40 : decode cX3_offerPart 40 = .ok (.istore 7, 2) := by decide +kernel
theorem dX3_offerPart_42 : decode cX3_offerPart 42 = .ok (.iload_n 1, 1) := by decide +kernel
theorem dX3_offerPart_43 : decode cX3_offerPart 43 = .ok (.aload_n 3, 1) := by decide +kernel
theorem dX3_offerPart_44 : decode cX3_offerPart 44 = .ok (.getfield 36, 3) := by decide +kernel
theorem dX3_offerPart_47 : decode cX3_offerPart 47 = .ok (.iload 4, 2) := by decide +kernel
theorem dX3_offerPart_49 : decode cX3_offerPart 49 = .ok (.iaload, 1) := by decide +kernel
theorem dX3_offerPart_50 : decode cX3_offerPart 50 = .ok (.isub, 1) := by decide +kernel
theorem dX3_offerPart_51 : decode cX3_offerPart 51 = .ok (.istore 8, 2) := by decide +kernel
theorem dX3_offerPart_53 : decode cX3_offerPart 53 = .ok (.iload_n 2, 1) := by decide +kernel
theorem dX3_offerPart_54 : decode cX3_offerPart 54 = .ok (.aload_n 3, 1) := by decide +kernel
theorem dX3_offerPart_55 : decode cX3_offerPart 55 = .ok (.getfield 40, 3) := by decide +kernel
theorem dX3_offerPart_58 : decode cX3_offerPart 58 = .ok (.iload 4, 2) := by decide +kernel
theorem dX3_offerPart_60 : decode cX3_offerPart 60 = .ok (.iaload, 1) := by decide +kernel
theorem dX3_offerPart_61 : decode cX3_offerPart 61 = .ok (.isub, 1) := by decide +kernel
theorem dX3_offerPart_62 : decode cX3_offerPart 62 = .ok (.istore 9, 2) := by decide +kernel
theorem dX3_offerPart_64 : decode cX3_offerPart 64 = .ok (.iload 6, 2) := by decide +kernel
theorem dX3_offerPart_66 : decode cX3_offerPart 66 = .ok (.iload 6, 2) := by decide +kernel
theorem dX3_offerPart_68 : decode cX3_offerPart 68 = .ok (.imul, 1) := by decide +kernel
theorem dX3_offerPart_69 : decode cX3_offerPart 69 = .ok (.iload 7, 2) := by decide +kernel
theorem dX3_offerPart_71 : decode cX3_offerPart 71 = .ok (.iload 7, 2) := by decide +kernel
theorem dX3_offerPart_73 : decode cX3_offerPart 73 = .ok (.imul, 1) := by decide +kernel
theorem dX3_offerPart_74 : decode cX3_offerPart 74 = .ok (.iadd, 1) := by decide +kernel
theorem dX3_offerPart_75 : decode cX3_offerPart 75 = .ok (.istore 10, 2) := by decide +kernel
theorem dX3_offerPart_77 : decode cX3_offerPart 77 = .ok (.iload 6, 2) := by decide +kernel
theorem dX3_offerPart_79 : decode cX3_offerPart 79 = .ok (.iload 8, 2) := by decide +kernel
theorem dX3_offerPart_81 : decode cX3_offerPart 81 = .ok (.imul, 1) := by decide +kernel
theorem dX3_offerPart_82 : decode cX3_offerPart 82 = .ok (.iload 7, 2) := by decide +kernel
theorem dX3_offerPart_84 : decode cX3_offerPart 84 = .ok (.iload 9, 2) := by decide +kernel
theorem dX3_offerPart_86 : decode cX3_offerPart 86 = .ok (.imul, 1) := by decide +kernel
theorem dX3_offerPart_87 : decode cX3_offerPart 87 = .ok (.iadd, 1) := by decide +kernel
theorem dX3_offerPart_88 : decode cX3_offerPart 88 = .ok (.istore 11, 2) := by decide +kernel
theorem dX3_offerPart_90 : decode cX3_offerPart 90 = .ok (.iload 11, 2) := by decide +kernel
theorem dX3_offerPart_92 : decode cX3_offerPart 92 = .ok (.ifCond .gt 23, 3) := by decide +kernel
theorem dX3_offerPart_95 : decode cX3_offerPart 95 = .ok (.aload_n 0, 1) := by decide +kernel
theorem dX3_offerPart_96 : decode cX3_offerPart 96 = .ok (.iload 8, 2) := by decide +kernel
theorem dX3_offerPart_98 : decode cX3_offerPart 98 = .ok (.iload 8, 2) := by decide +kernel
theorem dX3_offerPart_100 : decode cX3_offerPart 100 = .ok (.imul, 1) := by decide +kernel
theorem dX3_offerPart_101 : decode cX3_offerPart 101 = .ok (.iload 9, 2) := by decide +kernel
theorem dX3_offerPart_103 : decode cX3_offerPart 103 = .ok (.iload 9, 2) := by decide +kernel
theorem dX3_offerPart_105 : decode cX3_offerPart 105 = .ok (.imul, 1) := by decide +kernel
theorem dX3_offerPart_106 : decode cX3_offerPart 106 = .ok (.iadd, 1) := by decide +kernel
theorem dX3_offerPart_107 : decode cX3_offerPart 107 = .ok (.i2l, 1) := by decide +kernel
theorem dX3_offerPart_108 : decode cX3_offerPart 108 = .ok (.lconst 1, 1) := by decide +kernel
theorem dX3_offerPart_109 : decode cX3_offerPart 109 = .ok (.invokevirtual 43, 3) := by decide +kernel
theorem dX3_offerPart_112 : decode cX3_offerPart 112 = .ok (.goto 65, 3) := by decide +kernel
theorem dX3_offerPart_115 : decode cX3_offerPart 115 = .ok (.iload 11, 2) := by decide +kernel
theorem dX3_offerPart_117 : decode cX3_offerPart 117 = .ok (.iload 10, 2) := by decide +kernel
theorem dX3_offerPart_119 : decode cX3_offerPart 119 = .ok (.if_icmp .lt 35, 3) := by decide +kernel
theorem dX3_offerPart_122 : decode cX3_offerPart 122 = .ok (.aload_n 0, 1) := by decide +kernel
theorem dX3_offerPart_123 : decode cX3_offerPart 123 = .ok (.iload 8, 2) := by decide +kernel
theorem dX3_offerPart_125 : decode cX3_offerPart 125 = .ok (.iload 6, 2) := by decide +kernel
theorem dX3_offerPart_127 : decode cX3_offerPart 127 = .ok (.isub, 1) := by decide +kernel
theorem dX3_offerPart_128 : decode cX3_offerPart 128 = .ok (.iload 8, 2) := by decide +kernel
theorem dX3_offerPart_130 : decode cX3_offerPart 130 = .ok (.iload 6, 2) := by decide +kernel
theorem dX3_offerPart_132 : decode cX3_offerPart 132 = .ok (.isub, 1) := by decide +kernel
theorem dX3_offerPart_133 : decode cX3_offerPart 133 = .ok (.imul, 1) := by decide +kernel
theorem dX3_offerPart_134 : decode cX3_offerPart 134 = .ok (.iload 9, 2) := by decide +kernel
theorem dX3_offerPart_136 : decode cX3_offerPart 136 = .ok (.iload 7, 2) := by decide +kernel
theorem dX3_offerPart_138 : decode cX3_offerPart 138 = .ok (.isub, 1) := by decide +kernel
theorem dX3_offerPart_139 : decode cX3_offerPart 139 = .ok (.iload 9, 2) := by decide +kernel
theorem dX3_offerPart_141 : decode cX3_offerPart 141 = .ok (.iload 7, 2) := by decide +kernel
theorem dX3_offerPart_143 : decode cX3_offerPart 143 = .ok (.isub, 1) := by decide +kernel
theorem dX3_offerPart_144 : decode cX3_offerPart 144 = .ok (.imul, 1) := by decide +kernel
theorem dX3_offerPart_145 : decode cX3_offerPart 145 = .ok (.iadd, 1) := by decide +kernel
theorem dX3_offerPart_146 : decode cX3_offerPart 146 = .ok (.i2l, 1) := by decide +kernel
theorem dX3_offerPart_147 : decode cX3_offerPart 147 = .ok (.lconst 1, 1) := by decide +kernel
theorem dX3_offerPart_148 : decode cX3_offerPart 148 = .ok (.invokevirtual 43, 3) := by decide +kernel
theorem dX3_offerPart_151 : decode cX3_offerPart 151 = .ok (.goto 26, 3) := by decide +kernel
theorem dX3_offerPart_154 : decode cX3_offerPart 154 = .ok (.aload_n 3, 1) := by decide +kernel
theorem dX3_offerPart_155 : decode cX3_offerPart 155 = .ok (.iload 4, 2) := by decide +kernel
theorem dX3_offerPart_157 : decode cX3_offerPart 157 = .ok (.iload_n 1, 1) := by decide +kernel
theorem dX3_offerPart_158 : decode cX3_offerPart 158 = .ok (.iload_n 2, 1) := by decide +kernel
theorem dX3_offerPart_159 : decode cX3_offerPart 159 = .ok (.invokevirtual 46, 3) := by decide +kernel
theorem dX3_offerPart_162 : decode cX3_offerPart 162 = .ok (.i2l, 1) := by decide +kernel
theorem dX3_offerPart_163 : decode cX3_offerPart 163 = .ok (.lstore 12, 2) := by decide +kernel
theorem dX3_offerPart_165 : decode cX3_offerPart 165 = .ok (.aload_n 0, 1) := by decide +kernel
theorem dX3_offerPart_166 : decode cX3_offerPart 166 = .ok (.lload 12, 2) := by decide +kernel
theorem dX3_offerPart_168 : decode cX3_offerPart 168 = .ok (.lload 12, 2) := by decide +kernel
theorem dX3_offerPart_170 : decode cX3_offerPart 170 = .ok (.lmul, 1) := by decide +kernel
theorem dX3_offerPart_171 : decode cX3_offerPart 171 = .ok (.iload 10, 2) := by decide +kernel
theorem dX3_offerPart_173 : decode cX3_offerPart 173 = .ok (.i2l, 1) := by decide +kernel
theorem dX3_offerPart_174 : decode cX3_offerPart 174 = .ok (.invokevirtual 43, 3) := by decide +kernel
theorem dX3_offerPart_177 : decode cX3_offerPart 177 = .ok (.return_, 1) := by decide +kernel
theorem dX3_between_0 : decode cX3_between 0 = .ok (.aload_n 1, 1) := by decide +kernel
theorem dX3_between_1 : decode cX3_between 1 = .ok (.aload_n 2, 1) := by decide +kernel
theorem dX3_between_2 : decode cX3_between 2 = .ok (.invokevirtual 50, 3) := by decide +kernel
theorem dX3_between_5 : decode cX3_between 5 = .ok (.ifCond .eq 10, 3) := by decide +kernel
theorem dX3_between_8 : decode cX3_between 8 = .ok (.aload_n 0, 1) := by decide +kernel
theorem dX3_between_9 : decode cX3_between 9 = .ok (.lconst 0, 1) := by decide +kernel
theorem dX3_between_10 : decode cX3_between 10 = .ok (.lconst 1, 1) := by decide +kernel
theorem dX3_between_11 : decode cX3_between 11 = .ok (.invokevirtual 16, 3) := by decide +kernel
theorem dX3_between_14 : decode cX3_between 14 = .ok (.return_, 1) := by decide +kernel
theorem dX3_between_15 : decode cX3_between 15 = .ok (.aload_n 0, 1) := by decide +kernel
theorem dX3_between_16 : decode cX3_between 16 = .ok (.invokevirtual 54, 3) := by decide +kernel
theorem dX3_between_19 : decode cX3_between 19 = .ok (.iconst 0, 1) := by decide +kernel
theorem dX3_between_20 : decode cX3_between 20 = .ok (.istore_n 3, 1) := by decide +kernel
theorem dX3_between_21 : decode cX3_between 21 = .ok (.iload_n 3, 1) := by decide +kernel
theorem dX3_between_22 : decode cX3_between 22 = .ok (.aload_n 1, 1) := by decide +kernel
theorem dX3_between_23 : decode cX3_between 23 = .ok (.getfield 57, 3) := by decide +kernel
theorem dX3_between_26 : decode cX3_between 26 = .ok (.if_icmp .ge 26, 3) := by decide +kernel
theorem dX3_between_29 : decode cX3_between 29 = .ok (.aload_n 0, 1) := by decide +kernel
theorem dX3_between_30 : decode cX3_between 30 = .ok (.aload_n 1, 1) := by decide +kernel
theorem dX3_between_31 : decode cX3_between 31 = .ok (.getfield 36, 3) := by decide +kernel
theorem dX3_between_34 : decode cX3_between 34 = .ok (.iload_n 3, 1) := by decide +kernel
theorem dX3_between_35 : decode cX3_between 35 = .ok (.iaload, 1) := by decide +kernel
theorem dX3_between_36 : decode cX3_between 36 = .ok (.aload_n 1, 1) := by decide +kernel
theorem dX3_between_37 : decode cX3_between 37 = .ok (.getfield 40, 3) := by decide +kernel
theorem dX3_between_40 : decode cX3_between 40 = .ok (.iload_n 3, 1) := by decide +kernel
theorem dX3_between_41 : decode cX3_between 41 = .ok (.iaload, 1) := by decide +kernel
theorem dX3_between_42 : decode cX3_between 42 = .ok (.aload_n 2, 1) := by decide +kernel
theorem dX3_between_43 : decode cX3_between 43 = .ok (.invokevirtual 61, 3) := by decide +kernel
theorem dX3_between_46 : decode cX3_between 46 = .ok (.iinc 3 1, 3) := by decide +kernel
theorem dX3_between_49 : decode cX3_between 49 = .ok (.goto (-28), 3) := by decide +kernel
theorem dX3_between_52 : decode cX3_between 52 = .ok (.iconst 0, 1) := by decide +kernel
theorem dX3_between_53 : decode cX3_between 53 = .ok (.istore_n 3, 1) := by decide +kernel
theorem dX3_between_54 : decode cX3_between 54 = .ok (.iload_n 3, 1) := by decide +kernel
theorem dX3_between_55 : decode cX3_between 55 = .ok (.aload_n 2, 1) := by decide +kernel
theorem dX3_between_56 : decode cX3_between 56 = .ok (.getfield 57, 3) := by decide +kernel
theorem dX3_between_59 : decode cX3_between 59 = .ok (.if_icmp .ge 26, 3) := by decide +kernel
theorem dX3_between_62 : decode cX3_between 62 = .ok (.aload_n 0, 1) := by decide +kernel
theorem dX3_between_63 : decode cX3_between 63 = .ok (.aload_n 2, 1) := by decide +kernel
theorem dX3_between_64 : decode cX3_between 64 = .ok (.getfield 36, 3) := by decide +kernel
theorem dX3_between_67 : decode cX3_between 67 = .ok (.iload_n 3, 1) := by decide +kernel
theorem dX3_between_68 : decode cX3_between 68 = .ok (.iaload, 1) := by decide +kernel
theorem dX3_between_69 : decode cX3_between 69 = .ok (.aload_n 2, 1) := by decide +kernel
theorem dX3_between_70 : decode cX3_between 70 = .ok (.getfield 40, 3) := by decide +kernel
theorem dX3_between_73 : decode cX3_between 73 = .ok (.iload_n 3, 1) := by decide +kernel
theorem dX3_between_74 : decode cX3_between 74 = .ok (.iaload, 1) := by decide +kernel
theorem dX3_between_75 : decode cX3_between 75 = .ok (.aload_n 1, 1) := by decide +kernel
theorem dX3_between_76 : decode cX3_between 76 = .ok (.invokevirtual 61, 3) := by decide +kernel
theorem dX3_between_79 : decode cX3_between 79 = .ok (.iinc 3 1, 3) := by decide +kernel
theorem dX3_between_82 : decode cX3_between 82 = .ok (.goto (-28), 3) := by decide +kernel
theorem dX3_between_85 : decode cX3_between 85 = .ok (.return_, 1) := by decide +kernel
theorem dX3_reduced_0 : decode cX3_reduced 0 = .ok (.aload_n 0, 1) := by decide +kernel
theorem dX3_reduced_1 : decode cX3_reduced 1 = .ok (.getfield 7, 3) := by decide +kernel
theorem dX3_reduced_4 : decode cX3_reduced 4 = .ok (.lstore_n 2, 1) := by decide +kernel
theorem dX3_reduced_5 : decode cX3_reduced 5 = .ok (.aload_n 0, 1) := by decide +kernel
theorem dX3_reduced_6 : decode cX3_reduced 6 = .ok (.getfield 13, 3) := by decide +kernel
theorem dX3_reduced_9 : decode cX3_reduced 9 = .ok (.lstore 4, 2) := by decide +kernel
theorem dX3_reduced_11 : decode cX3_reduced 11 = .ok (.iconst 0, 1) := by decide +kernel
theorem dX3_reduced_12 : decode cX3_reduced 12 = .ok (.istore 6, 2) := by decide +kernel
theorem dX3_reduced_14 : decode cX3_reduced 14 = .ok (.iload 6, 2) := by decide +kernel
theorem dX3_reduced_16 : decode cX3_reduced 16 = .ok (.sipush 200, 3) := by decide +kernel
theorem dX3_reduced_19 : decode cX3_reduced 19 = .ok (.if_icmp .ge 29, 3) := by decide +kernel
theorem dX3_reduced_22 : decode cX3_reduced 22 = .ok (.lload 4, 2) := by decide +kernel
theorem dX3_reduced_24 : decode cX3_reduced 24 = .ok (.lconst 0, 1) := by decide +kernel
theorem dX3_reduced_25 : decode cX3_reduced 25 = .ok (.lcmp, 1) := by decide +kernel
theorem dX3_reduced_26 : decode cX3_reduced 26 = .ok (.ifCond .eq 22, 3) := by decide +kernel
theorem dX3_reduced_29 : decode cX3_reduced 29 = .ok (.lload_n 2, 1) := by decide +kernel
theorem dX3_reduced_30 : decode cX3_reduced 30 = .ok (.lload 4, 2) := by decide +kernel
theorem dX3_reduced_32 : decode cX3_reduced 32 = .ok (.lrem, 1) := by decide +kernel
theorem dX3_reduced_33 : decode cX3_reduced 33 = .ok (.lstore 7, 2) := by decide +kernel
theorem dX3_reduced_35 : decode cX3_reduced 35 = .ok (.lload 4, 2) := by decide +kernel
theorem dX3_reduced_37 : decode cX3_reduced 37 = .ok (.lstore_n 2, 1) := by decide +kernel
theorem dX3_reduced_38 : decode cX3_reduced 38 = .ok (.lload 7, 2) := by decide +kernel
theorem dX3_reduced_40 : decode cX3_reduced 40 = .ok (.lstore 4, 2) := by decide +kernel
theorem dX3_reduced_42 : decode cX3_reduced 42 = .ok (.iinc 6 1, 3) := by decide +kernel
theorem dX3_reduced_45 : decode cX3_reduced 45 = .ok (.goto (-31), 3) := by decide +kernel
theorem dX3_reduced_48 : decode cX3_reduced 48 = .ok (.lload_n 2, 1) := by decide +kernel
theorem dX3_reduced_49 : decode cX3_reduced 49 = .ok (.lconst 0, 1) := by decide +kernel
theorem dX3_reduced_50 : decode cX3_reduced 50 = .ok (.lcmp, 1) := by decide +kernel
theorem dX3_reduced_51 : decode cX3_reduced 51 = .ok (.ifCond .ne 13, 3) := by decide +kernel
theorem dX3_reduced_54 : decode cX3_reduced 54 = .ok (.iload_n 1, 1) := by decide +kernel
theorem dX3_reduced_55 : decode cX3_reduced 55 = .ok (.ifCond .ne 7, 3) := by decide +kernel
theorem dX3_reduced_58 : decode cX3_reduced 58 = .ok (.lconst 0, 1) := by decide +kernel
theorem dX3_reduced_59 : decode cX3_reduced 59 = .ok (.goto 4, 3) := by decide +kernel
theorem dX3_reduced_62 : decode cX3_reduced 62 = .ok (.lconst 1, 1) := by decide +kernel
theorem dX3_reduced_63 : decode cX3_reduced 63 = .ok (.lreturn, 1) := by decide +kernel
theorem dX3_reduced_64 : decode cX3_reduced 64 = .ok (.iload_n 1, 1) := by decide +kernel
theorem dX3_reduced_65 : decode cX3_reduced 65 = .ok (.ifCond .ne 10, 3) := by decide +kernel
theorem dX3_reduced_68 : decode cX3_reduced 68 = .ok (.aload_n 0, 1) := by decide +kernel
theorem dX3_reduced_69 : decode cX3_reduced 69 = .ok (.getfield 7, 3) := by decide +kernel
theorem dX3_reduced_72 : decode cX3_reduced 72 = .ok (.goto 7, 3) := by decide +kernel
theorem dX3_reduced_75 : decode cX3_reduced 75 = .ok (.aload_n 0, 1) := by decide +kernel
theorem dX3_reduced_76 : decode cX3_reduced 76 = .ok (.getfield 13, 3) := by decide +kernel
theorem dX3_reduced_79 : decode cX3_reduced 79 = .ok (.lload_n 2, 1) := by decide +kernel
theorem dX3_reduced_80 : decode cX3_reduced 80 = .ok (.ldiv, 1) := by decide +kernel
theorem dX3_reduced_81 : decode cX3_reduced 81 = .ok (.lreturn, 1) := by decide +kernel
theorem dX4_init_0 : decode cX4_init 0 = .ok (.aload_n 0, 1) := by decide +kernel
theorem dX4_init_1 : decode cX4_init 1 = .ok (.invokespecial 3, 3) := by decide +kernel
theorem dX4_init_4 : decode cX4_init 4 = .ok (.aload_n 0, 1) := by decide +kernel
theorem dX4_init_5 : decode cX4_init 5 = .ok (.new 9, 3) := by decide +kernel
theorem dX4_init_8 : decode cX4_init 8 = .ok (.dup, 1) := by decide +kernel
theorem dX4_init_9 : decode cX4_init 9 = .ok (.bipush 40, 2) := by decide +kernel
theorem dX4_init_11 : decode cX4_init 11 = .ok (.iconst 0, 1) := by decide +kernel
theorem dX4_init_12 : decode cX4_init 12 = .ok (.invokespecial 11, 3) := by decide +kernel
theorem dX4_init_15 : decode cX4_init 15 = .ok (.putfield 14, 3) := by decide +kernel
theorem dX4_init_18 : decode cX4_init 18 = .ok (.aload_n 0, 1) := by decide +kernel
theorem dX4_init_19 : decode cX4_init 19 = .ok (.new 9, 3) := by decide +kernel
theorem dX4_init_22 : decode cX4_init 22 = .ok (.dup, 1) := by decide +kernel
theorem dX4_init_23 : decode cX4_init 23 = .ok (.iconst 3, 1) := by decide +kernel
theorem dX4_init_24 : decode cX4_init 24 = .ok (.iconst 1, 1) := by decide +kernel
theorem dX4_init_25 : decode cX4_init 25 = .ok (.invokespecial 11, 3) := by decide +kernel
theorem dX4_init_28 : decode cX4_init 28 = .ok (.putfield 20, 3) := by decide +kernel
theorem dX4_init_31 : decode cX4_init 31 = .ok (.aload_n 0, 1) := by decide +kernel
theorem dX4_init_32 : decode cX4_init 32 = .ok (.new 9, 3) := by decide +kernel
theorem dX4_init_35 : decode cX4_init 35 = .ok (.dup, 1) := by decide +kernel
theorem dX4_init_36 : decode cX4_init 36 = .ok (.iconst 2, 1) := by decide +kernel
theorem dX4_init_37 : decode cX4_init 37 = .ok (.iconst 0, 1) := by decide +kernel
theorem dX4_init_38 : decode cX4_init 38 = .ok (.invokespecial 11, 3) := by decide +kernel
theorem dX4_init_41 : decode cX4_init 41 = .ok (.putfield 23, 3) := by decide +kernel
theorem dX4_init_44 : decode cX4_init 44 = .ok (.aload_n 0, 1) := by decide +kernel
theorem dX4_init_45 : decode cX4_init 45 = .ok (.new 26, 3) := by decide +kernel
theorem dX4_init_48 : decode cX4_init 48 = .ok (.dup, 1) := by decide +kernel
theorem dX4_init_49 : decode cX4_init 49 = .ok (.invokespecial 28, 3) := by decide +kernel
theorem dX4_init_52 : decode cX4_init 52 = .ok (.putfield 29, 3) := by decide +kernel
theorem dX4_init_55 : decode cX4_init 55 = .ok (.aload_n 0, 1) := by decide +kernel
theorem dX4_init_56 : decode cX4_init 56 = .ok (.new 26, 3) := by decide +kernel
theorem dX4_init_59 : decode cX4_init 59 = .ok (.dup, 1) := by decide +kernel
theorem dX4_init_60 : decode cX4_init 60 = .ok (.invokespecial 28, 3) := by decide +kernel
theorem dX4_init_63 : decode cX4_init 63 = .ok (.putfield 33, 3) := by decide +kernel
theorem dX4_init_66 : decode cX4_init 66 = .ok (.aload_n 0, 1) := by decide +kernel
theorem dX4_init_67 : decode cX4_init 67 = .ok (.bipush 40, 2) := by decide +kernel
theorem dX4_init_69 : decode cX4_init 69 = .ok (.newarray .int, 2) := by decide +kernel
theorem dX4_init_71 : decode cX4_init 71 = .ok (.putfield 36, 3) := by decide +kernel
theorem dX4_init_74 : decode cX4_init 74 = .ok (.return_, 1) := by decide +kernel
theorem dX4_cornerThatGoes_0 : decode cX4_cornerThatGoes 0 = .ok (.aload_n 2, 1) := by decide +kernel
theorem dX4_cornerThatGoes_1 : decode cX4_cornerThatGoes 1 = .ok (.getfield 40, 3) := by decide +kernel
theorem dX4_cornerThatGoes_4 : decode cX4_cornerThatGoes 4 = .ok (.getfield 46, 3) := by decide +kernel
theorem dX4_cornerThatGoes_7 : decode cX4_cornerThatGoes 7 = .ok (.astore 4, 2) := by decide +kernel
theorem dX4_cornerThatGoes_9 : decode cX4_cornerThatGoes 9 = .ok (.aload 4, 2) := by decide +kernel
theorem dX4_cornerThatGoes_11 : decode cX4_cornerThatGoes 11 = .ok (.ifnull 20, 3) := by decide +kernel
theorem dX4_cornerThatGoes_14 : decode cX4_cornerThatGoes 14 = .ok (.aload 4, 2) := by decide +kernel
theorem dX4_cornerThatGoes_16 : decode cX4_cornerThatGoes 16 = .ok (.getfield 51, 3) := by decide +kernel
theorem dX4_cornerThatGoes_19 : decode cX4_cornerThatGoes 19 = .ok (.ifCond .eq 14, 3) := by decide +kernel
theorem dX4_cornerThatGoes_22 : decode cX4_cornerThatGoes 22 = .ok (.aload 4, 2) := by decide +kernel
theorem dX4_cornerThatGoes_24 : decode cX4_cornerThatGoes 24 = .ok (.getfield 55, 3) := by decide +kernel
theorem dX4_cornerThatGoes_27 : decode cX4_cornerThatGoes 27 = .ok (.iconst 3, 1) := by decide +kernel
theorem dX4_cornerThatGoes_28 : decode cX4_cornerThatGoes 28 = .ok (.if_icmp .gt 5, 3) := by decide +kernel
theorem dX4_cornerThatGoes_31 : decode cX4_cornerThatGoes 31 = .ok (.iconst (-1), 1) := by decide +kernel
theorem dX4_cornerThatGoes_32 : decode cX4_cornerThatGoes 32 = .ok (.ireturn, 1) := by decide +kernel
theorem dX4_cornerThatGoes_33 : decode cX4_cornerThatGoes 33 = .ok (.iconst 0, 1) := by decide +kernel
theorem dX4_cornerThatGoes_34 : decode cX4_cornerThatGoes 34 = .ok (.istore 5, 2) := by decide +kernel
theorem dX4_cornerThatGoes_36 : decode cX4_cornerThatGoes 36 = .ok (.iload 5, 2) := by decide +kernel
theorem dX4_cornerThatGoes_38 : decode cX4_cornerThatGoes 38 = .ok (.aload 4, 2) := by decide +kernel
theorem dX4_cornerThatGoes_40 : decode cX4_cornerThatGoes 40 = .ok (.getfield 55, 3) := by decide +kernel
theorem dX4_cornerThatGoes_43 : decode cX4_cornerThatGoes 43 = .ok (.if_icmp .ge 37, 3) := by decide +kernel
theorem dX4_cornerThatGoes_46 : decode cX4_cornerThatGoes 46 = .ok (.aload_n 0, 1) := by decide +kernel
theorem dX4_cornerThatGoes_47 : decode cX4_cornerThatGoes 47 = .ok (.getfield 36, 3) := by decide +kernel
theorem dX4_cornerThatGoes_50 : decode cX4_cornerThatGoes 50 = .ok (.iload 5, 2) := by decide +kernel
theorem dX4_cornerThatGoes_52 : decode cX4_cornerThatGoes 52 = .ok (.aload 4, 2) := by decide +kernel
theorem dX4_cornerThatGoes_54 : decode cX4_cornerThatGoes 54 = .ok (.iload 5, 2) := by decide +kernel
theorem dX4_cornerThatGoes_56 : decode cX4_cornerThatGoes 56 = .ok (.invokevirtual 59, 3) := by decide +kernel
theorem dX4_cornerThatGoes_59 : decode cX4_cornerThatGoes 59 = .ok (.ifCond .eq 7, 3) := by decide +kernel
theorem dX4_cornerThatGoes_62 : decode cX4_cornerThatGoes 62 = .ok (.iconst (-1), 1) := by decide +kernel
theorem dX4_cornerThatGoes_63 : decode cX4_cornerThatGoes 63 = .ok (.goto 10, 3) := by decide +kernel
theorem dX4_cornerThatGoes_66 : decode cX4_cornerThatGoes 66 = .ok (.aload 4, 2) := by decide +kernel
theorem dX4_cornerThatGoes_68 : decode cX4_cornerThatGoes 68 = .ok (.iload 5, 2) := by decide +kernel
theorem dX4_cornerThatGoes_70 : decode cX4_cornerThatGoes 70 = .ok (.invokevirtual 63, 3) := by decide +kernel
theorem dX4_cornerThatGoes_73 : decode cX4_cornerThatGoes 73 = .ok (.iastore, 1) := by decide +kernel
theorem dX4_cornerThatGoes_74 : decode cX4_cornerThatGoes 74 = .ok (.iinc 5 1, 3) := by decide +kernel
theorem dX4_cornerThatGoes_77 : decode cX4_cornerThatGoes 77 = .ok (.goto (-41), 3) := by decide +kernel
theorem dX4_cornerThatGoes_80 : decode cX4_cornerThatGoes 80 = .ok (.iconst 0, 1) := by decide +kernel
theorem dX4_cornerThatGoes_81 : decode cX4_cornerThatGoes 81 = .ok (.istore 5, 2) := by decide +kernel
theorem dX4_cornerThatGoes_83 : decode cX4_cornerThatGoes 83 = .ok (.iload 5, 2) := by decide +kernel
theorem dX4_cornerThatGoes_85 : decode cX4_cornerThatGoes 85 = .ok (.aload 4, 2) := by decide +kernel
theorem dX4_cornerThatGoes_87 : decode cX4_cornerThatGoes 87 = .ok (.getfield 55, 3) := by decide +kernel
theorem dX4_cornerThatGoes_90 : decode cX4_cornerThatGoes 90 = .ok (.if_icmp .ge 94, 3) := by decide +kernel
theorem dX4_cornerThatGoes_93 : decode cX4_cornerThatGoes 93 = .ok (.aload_n 0, 1) := by decide +kernel
theorem dX4_cornerThatGoes_94 : decode cX4_cornerThatGoes 94 = .ok (.aload 4, 2) := by decide +kernel
theorem dX4_cornerThatGoes_96 : decode cX4_cornerThatGoes 96 = .ok (.getfield 55, 3) := by decide +kernel
theorem dX4_cornerThatGoes_99 : decode cX4_cornerThatGoes 99 = .ok (.iload_n 3, 1) := by decide +kernel
theorem dX4_cornerThatGoes_100 : decode cX4_cornerThatGoes 100 = .ok (.invokevirtual 67, 3) := by decide +kernel
theorem dX4_cornerThatGoes_103 : decode cX4_cornerThatGoes 103 = .ok (.istore 6, 2) := by decide +kernel
theorem dX4_cornerThatGoes_105 : decode cX4_cornerThatGoes 105 = .ok (.iload 6, 2) := by decide +kernel
theorem dX4_cornerThatGoes_107 : decode cX4_cornerThatGoes 107 = .ok (.iconst (-1), 1) := by decide +kernel
theorem dX4_cornerThatGoes_108 : decode cX4_cornerThatGoes 108 = .ok (.if_icmp .ne 5, 3) := by decide +kernel
theorem dX4_cornerThatGoes_111 : decode cX4_cornerThatGoes 111 = .ok (.iconst (-1), 1) := by decide +kernel
theorem dX4_cornerThatGoes_112 : decode cX4_cornerThatGoes 112 = .ok (.ireturn, 1) := by decide +kernel
theorem dX4_cornerThatGoes_113 : decode cX4_cornerThatGoes 113 = .ok (.aload_n 0, 1) := by decide +kernel
theorem dX4_cornerThatGoes_114 : decode cX4_cornerThatGoes 114 = .ok (.getfield 14, 3) := by decide +kernel
theorem dX4_cornerThatGoes_117 : decode cX4_cornerThatGoes 117 = .ok (.aload 4, 2) := by decide +kernel
theorem dX4_cornerThatGoes_119 : decode cX4_cornerThatGoes 119 = .ok (.invokevirtual 71, 3) := by decide +kernel
theorem dX4_cornerThatGoes_122 : decode cX4_cornerThatGoes 122 = .ok (.aload_n 0, 1) := by decide +kernel
theorem dX4_cornerThatGoes_123 : decode cX4_cornerThatGoes 123 = .ok (.getfield 14, 3) := by decide +kernel
theorem dX4_cornerThatGoes_126 : decode cX4_cornerThatGoes 126 = .ok (.iload 6, 2) := by decide +kernel
theorem dX4_cornerThatGoes_128 : decode cX4_cornerThatGoes 128 = .ok (.invokevirtual 75, 3) := by decide +kernel
theorem dX4_cornerThatGoes_131 : decode cX4_cornerThatGoes 131 = .ok (.aload_n 0, 1) := by decide +kernel
theorem dX4_cornerThatGoes_132 : decode cX4_cornerThatGoes 132 = .ok (.aload_n 1, 1) := by decide +kernel
theorem dX4_cornerThatGoes_133 : decode cX4_cornerThatGoes 133 = .ok (.aload_n 2, 1) := by decide +kernel
theorem dX4_cornerThatGoes_134 : decode cX4_cornerThatGoes 134 = .ok (.aload 4, 2) := by decide +kernel
theorem dX4_cornerThatGoes_136 : decode cX4_cornerThatGoes 136 = .ok (.getfield 79, 3) := by decide +kernel
theorem dX4_cornerThatGoes_139 : decode cX4_cornerThatGoes 139 = .ok (.iload 6, 2) := by decide +kernel
theorem dX4_cornerThatGoes_141 : decode cX4_cornerThatGoes 141 = .ok (.iaload, 1) := by decide +kernel
theorem dX4_cornerThatGoes_142 : decode cX4_cornerThatGoes 142 = .ok (.aload 4, 2) := by decide +kernel
theorem dX4_cornerThatGoes_144 : decode cX4_cornerThatGoes 144 = .ok (.getfield 82, 3) := by decide +kernel
theorem dX4_cornerThatGoes_147 : decode cX4_cornerThatGoes 147 = .ok (.iload 6, 2) := by decide +kernel
theorem dX4_cornerThatGoes_149 : decode cX4_cornerThatGoes 149 = .ok (.iaload, 1) := by decide +kernel
theorem dX4_cornerThatGoes_150 : decode cX4_cornerThatGoes 150 = .ok (.invokevirtual 85, 3) := by decide +kernel
theorem dX4_cornerThatGoes_153 : decode cX4_cornerThatGoes 153 = .ok (.ifCond .eq 17, 3) := by decide +kernel
theorem dX4_cornerThatGoes_156 : decode cX4_cornerThatGoes 156 = .ok (.aload_n 0, 1) := by decide +kernel
theorem dX4_cornerThatGoes_157 : decode cX4_cornerThatGoes 157 = .ok (.aload_n 1, 1) := by decide +kernel
theorem dX4_cornerThatGoes_158 : decode cX4_cornerThatGoes 158 = .ok (.aload_n 2, 1) := by decide +kernel
theorem dX4_cornerThatGoes_159 : decode cX4_cornerThatGoes 159 = .ok (.iload 6, 2) := by decide +kernel
theorem dX4_cornerThatGoes_161 : decode cX4_cornerThatGoes 161 = .ok (.invokevirtual 89, 3) := by decide +kernel
theorem dX4_cornerThatGoes_164 : decode cX4_cornerThatGoes 164 = .ok (.ifCond .eq 6, 3) := by decide +kernel
theorem dX4_cornerThatGoes_167 : decode cX4_cornerThatGoes 167 = .ok (.iload 6, 2) := by decide +kernel
theorem dX4_cornerThatGoes_169 : decode cX4_cornerThatGoes 169 = .ok (.ireturn, 1) := by decide +kernel
theorem dX4_cornerThatGoes_170 : decode cX4_cornerThatGoes 170 = .ok (.aload_n 0, 1) := by decide +kernel
theorem dX4_cornerThatGoes_171 : decode cX4_cornerThatGoes 171 = .ok (.getfield 36, 3) := by decide +kernel
theorem dX4_cornerThatGoes_174 : decode cX4_cornerThatGoes 174 = .ok (.iload 6, 2) := by decide +kernel
theorem dX4_cornerThatGoes_176 : decode cX4_cornerThatGoes 176 = .ok (.iconst (-1), 1) := by decide +kernel
theorem dX4_cornerThatGoes_177 : decode cX4_cornerThatGoes 177 = .ok (.iastore, 1) := by decide +kernel
theorem dX4_cornerThatGoes_178 : decode cX4_cornerThatGoes 178 = .ok (.iinc 5 1, 3) := by decide +kernel
theorem dX4_cornerThatGoes_181 : decode cX4_cornerThatGoes 181 = .ok (.goto (-98), 3) := by decide +kernel
theorem dX4_cornerThatGoes_184 : decode cX4_cornerThatGoes 184 = .ok (.iconst (-1), 1) := by decide +kernel
theorem dX4_cornerThatGoes_185 : decode cX4_cornerThatGoes 185 = .ok (.ireturn, 1) := by decide +kernel
theorem dX4_leastArea_0 : decode cX4_leastArea 0 = .ok (.iconst (-1), 1) := by decide +kernel
theorem dX4_leastArea_1 : decode cX4_leastArea 1 = .ok (.istore_n 3, 1) := by decide +kernel
theorem dX4_leastArea_2 : decode cX4_leastArea 2 = .ok (.iconst 0, 1) := by decide +kernel
theorem dX4_leastArea_3 : decode cX4_leastArea 3 = .ok (.istore 4, 2) := by decide +kernel
theorem dX4_leastArea_5 : decode cX4_leastArea 5 = .ok (.iload 4, 2) := by decide +kernel
theorem dX4_leastArea_7 : decode cX4_leastArea 7 = .ok (.iload_n 1, 1) := by decide +kernel
theorem dX4_leastArea_8 : decode cX4_leastArea 8 = .ok (.if_icmp .ge 54, 3) := by decide +kernel
theorem dX4_leastArea_11 : decode cX4_leastArea 11 = .ok (.aload_n 0, 1) := by decide +kernel
theorem dX4_leastArea_12 : decode cX4_leastArea 12 = .ok (.getfield 36, 3) := by decide +kernel
theorem dX4_leastArea_15 : decode cX4_leastArea 15 = .ok (.iload 4, 2) := by decide +kernel
theorem dX4_leastArea_17 : decode cX4_leastArea 17 = .ok (.iaload, 1) := by decide +kernel
theorem dX4_leastArea_18 : decode cX4_leastArea 18 = .ok (.ifCond .lt 38, 3) := by decide +kernel
theorem dX4_leastArea_21 : decode cX4_leastArea 21 = .ok (.aload_n 0, 1) := by decide +kernel
theorem dX4_leastArea_22 : decode cX4_leastArea 22 = .ok (.getfield 36, 3) := by decide +kernel
theorem dX4_leastArea_25 : decode cX4_leastArea 25 = .ok (.iload 4, 2) := by decide +kernel
theorem dX4_leastArea_27 : decode cX4_leastArea 27 = .ok (.iaload, 1) := by decide +kernel
theorem dX4_leastArea_28 : decode cX4_leastArea 28 = .ok (.iload_n 2, 1) := by decide +kernel
theorem dX4_leastArea_29 : decode cX4_leastArea 29 = .ok (.if_icmp .gt 27, 3) := by decide +kernel
theorem dX4_leastArea_32 : decode cX4_leastArea 32 = .ok (.iload_n 3, 1) := by decide +kernel
theorem dX4_leastArea_33 : decode cX4_leastArea 33 = .ok (.iconst (-1), 1) := by decide +kernel
theorem dX4_leastArea_34 : decode cX4_leastArea 34 = .ok (.if_icmp .eq 19, 3) := by decide +kernel
theorem dX4_leastArea_37 : decode cX4_leastArea 37 = .ok (.aload_n 0, 1) := by decide +kernel
theorem dX4_leastArea_38 : decode cX4_leastArea 38 = .ok (.getfield 36, 3) := by decide +kernel
theorem dX4_leastArea_41 : decode cX4_leastArea 41 = .ok (.iload 4, 2) := by decide +kernel
theorem dX4_leastArea_43 : decode cX4_leastArea 43 = .ok (.iaload, 1) := by decide +kernel
theorem dX4_leastArea_44 : decode cX4_leastArea 44 = .ok (.aload_n 0, 1) := by decide +kernel
theorem dX4_leastArea_45 : decode cX4_leastArea 45 = .ok (.getfield 36, 3) := by decide +kernel
theorem dX4_leastArea_48 : decode cX4_leastArea 48 = .ok (.iload_n 3, 1) := by decide +kernel
theorem dX4_leastArea_49 : decode cX4_leastArea 49 = .ok (.iaload, 1) := by decide +kernel
theorem dX4_leastArea_50 : decode cX4_leastArea 50 = .ok (.if_icmp .ge 6, 3) := by decide +kernel
theorem dX4_leastArea_53 : decode cX4_leastArea 53 = .ok (.iload 4, 2) := by decide +kernel
theorem dX4_leastArea_55 : decode cX4_leastArea 55 = .ok (.istore_n 3, 1) := by decide +kernel
theorem dX4_leastArea_56 : decode cX4_leastArea 56 = .ok (.iinc 4 1, 3) := by decide +kernel
theorem dX4_leastArea_59 : decode cX4_leastArea 59 = .ok (.goto (-54), 3) := by decide +kernel
theorem dX4_leastArea_62 : decode cX4_leastArea 62 = .ok (.iload_n 3, 1) := by decide +kernel
theorem dX4_leastArea_63 : decode cX4_leastArea 63 = .ok (.ireturn, 1) := by decide +kernel
theorem dX4_isBare_0 : decode cX4_isBare 0 = .ok (.iconst 0, 1) := by decide +kernel
theorem dX4_isBare_1 : decode cX4_isBare 1 = .ok (.istore 5, 2) := by decide +kernel
theorem dX4_isBare_3 : decode cX4_isBare 3 = .ok (.iload 5, 2) := by decide +kernel
theorem dX4_isBare_5 : decode cX4_isBare 5 = .ok (.aload_n 1, 1) := by decide +kernel
theorem dX4_isBare_6 : decode cX4_isBare 6 = .ok (.getfield 93, 3) := by decide +kernel
theorem dX4_isBare_9 : decode cX4_isBare 9 = .ok (.if_icmp .ge 45, 3) := by decide +kernel
theorem dX4_isBare_12 : decode cX4_isBare 12 = .ok (.aload_n 1, 1) := by decide +kernel
theorem dX4_isBare_13 : decode cX4_isBare 13 = .ok (.iload 5, 2) := by decide +kernel
theorem dX4_isBare_15 : decode cX4_isBare 15 = .ok (.invokevirtual 98, 3) := by decide +kernel
theorem dX4_isBare_18 : decode cX4_isBare 18 = .ok (.astore 6, 2) := by decide +kernel
theorem dX4_isBare_20 : decode cX4_isBare 20 = .ok (.aload 6, 2) := by decide +kernel
theorem dX4_isBare_22 : decode cX4_isBare 22 = .ok (.ifnull 26, 3) := by decide +kernel
theorem dX4_isBare_25 : decode cX4_isBare 25 = .ok (.aload_n 1, 1) := by decide +kernel
theorem dX4_isBare_26 : decode cX4_isBare 26 = .ok (.iload 5, 2) := by decide +kernel
theorem dX4_isBare_28 : decode cX4_isBare 28 = .ok (.invokevirtual 102, 3) := by decide +kernel
theorem dX4_isBare_31 : decode cX4_isBare 31 = .ok (.aload_n 2, 1) := by decide +kernel
theorem dX4_isBare_32 : decode cX4_isBare 32 = .ok (.if_acmp .eq 16, 3) := by decide +kernel
theorem dX4_isBare_35 : decode cX4_isBare 35 = .ok (.aload 6, 2) := by decide +kernel
theorem dX4_isBare_37 : decode cX4_isBare 37 = .ok (.iload_n 3, 1) := by decide +kernel
theorem dX4_isBare_38 : decode cX4_isBare 38 = .ok (.iload 4, 2) := by decide +kernel
theorem dX4_isBare_40 : decode cX4_isBare 40 = .ok (.invokevirtual 106, 3) := by decide +kernel
theorem dX4_isBare_43 : decode cX4_isBare 43 = .ok (.ifCond .eq 5, 3) := by decide +kernel
theorem dX4_isBare_46 : decode cX4_isBare 46 = .ok (.iconst 0, 1) := by decide +kernel
theorem dX4_isBare_47 : decode cX4_isBare 47 = .ok (.ireturn, 1) := by decide +kernel
theorem dX4_isBare_48 : decode cX4_isBare 48 = .ok (.iinc 5 1, 3) := by decide +kernel
theorem dX4_isBare_51 : decode cX4_isBare 51 = .ok (.goto (-48), 3) := by decide +kernel
theorem dX4_isBare_54 : decode cX4_isBare 54 = .ok (.iconst 1, 1) := by decide +kernel
theorem dX4_isBare_55 : decode cX4_isBare 55 = .ok (.ireturn, 1) := by decide +kernel
theorem dX4_allows_0 : decode cX4_allows 0 = .ok (.aload_n 2, 1) := by decide +kernel
theorem dX4_allows_1 : decode cX4_allows 1 = .ok (.getfield 40, 3) := by decide +kernel
theorem dX4_allows_4 : decode cX4_allows 4 = .ok (.getfield 46, 3) := by decide +kernel
theorem dX4_allows_7 : decode cX4_allows 7 = .ok (.astore 4, 2) := by decide +kernel
theorem dX4_allows_9 : decode cX4_allows 9 = .ok (.aload 4, 2) := by decide +kernel
theorem dX4_allows_11 : decode cX4_allows 11 = .ok (.ifnull 13, 3) := by decide +kernel
theorem dX4_allows_14 : decode cX4_allows 14 = .ok (.aload_n 0, 1) := by decide +kernel
theorem dX4_allows_15 : decode cX4_allows 15 = .ok (.getfield 14, 3) := by decide +kernel
theorem dX4_allows_18 : decode cX4_allows 18 = .ok (.invokevirtual 110, 3) := by decide +kernel
theorem dX4_allows_21 : decode cX4_allows 21 = .ok (.ifCond .ne 5, 3) := by decide +kernel
theorem dX4_allows_24 : decode cX4_allows 24 = .ok (.iconst 0, 1) := by decide +kernel
theorem dX4_allows_25 : decode cX4_allows 25 = .ok (.ireturn, 1) := by decide +kernel
theorem dX4_allows_26 : decode cX4_allows 26 = .ok (.aload_n 0, 1) := by decide +kernel
theorem dX4_allows_27 : decode cX4_allows 27 = .ok (.getfield 14, 3) := by decide +kernel
theorem dX4_allows_30 : decode cX4_allows 30 = .ok (.iload_n 3, 1) := by decide +kernel
theorem dX4_allows_31 : decode cX4_allows 31 = .ok (.aload_n 0, 1) := by decide +kernel
theorem dX4_allows_32 : decode cX4_allows 32 = .ok (.getfield 14, 3) := by decide +kernel
theorem dX4_allows_35 : decode cX4_allows 35 = .ok (.getfield 55, 3) := by decide +kernel
theorem dX4_allows_38 : decode cX4_allows 38 = .ok (.if_icmp .ge 7, 3) := by decide +kernel
theorem dX4_allows_41 : decode cX4_allows 41 = .ok (.iload_n 3, 1) := by decide +kernel
theorem dX4_allows_42 : decode cX4_allows 42 = .ok (.goto 4, 3) := by decide +kernel
theorem dX4_allows_45 : decode cX4_allows 45 = .ok (.iconst 0, 1) := by decide +kernel
theorem dX4_allows_46 : decode cX4_allows 46 = .ok (.invokevirtual 114, 3) := by decide +kernel
theorem dX4_allows_49 : decode cX4_allows 49 = .ok (.istore 5, 2) := by decide +kernel
theorem dX4_allows_51 : decode cX4_allows 51 = .ok (.iload_n 3, 1) := by decide +kernel
theorem dX4_allows_52 : decode cX4_allows 52 = .ok (.bipush (-2), 2) := by decide +kernel
theorem dX4_allows_54 : decode cX4_allows 54 = .ok (.if_icmp .ne 8, 3) := by decide +kernel
theorem dX4_allows_57 : decode cX4_allows 57 = .ok (.bipush 6, 2) := by decide +kernel
theorem dX4_allows_59 : decode cX4_allows 59 = .ok (.goto 10, 3) := by decide +kernel
theorem dX4_allows_62 : decode cX4_allows 62 = .ok (.aload_n 2, 1) := by decide +kernel
theorem dX4_allows_63 : decode cX4_allows 63 = .ok (.getfield 40, 3) := by decide +kernel
theorem dX4_allows_66 : decode cX4_allows 66 = .ok (.getfield 117, 3) := by decide +kernel
theorem dX4_allows_69 : decode cX4_allows 69 = .ok (.istore 6, 2) := by decide +kernel
theorem dX4_allows_71 : decode cX4_allows 71 = .ok (.iload_n 3, 1) := by decide +kernel
theorem dX4_allows_72 : decode cX4_allows 72 = .ok (.ifCond .lt 19, 3) := by decide +kernel
theorem dX4_allows_75 : decode cX4_allows 75 = .ok (.aload_n 0, 1) := by decide +kernel
theorem dX4_allows_76 : decode cX4_allows 76 = .ok (.getfield 14, 3) := by decide +kernel
theorem dX4_allows_79 : decode cX4_allows 79 = .ok (.iload 5, 2) := by decide +kernel
theorem dX4_allows_81 : decode cX4_allows 81 = .ok (.iconst 0, 1) := by decide +kernel
theorem dX4_allows_82 : decode cX4_allows 82 = .ok (.invokevirtual 120, 3) := by decide +kernel
theorem dX4_allows_85 : decode cX4_allows 85 = .ok (.ifCond .ne 20, 3) := by decide +kernel
theorem dX4_allows_88 : decode cX4_allows 88 = .ok (.goto 15, 3) := by decide +kernel
theorem dX4_allows_91 : decode cX4_allows 91 = .ok (.aload_n 0, 1) := by decide +kernel
theorem dX4_allows_92 : decode cX4_allows 92 = .ok (.getfield 14, 3) := by decide +kernel
theorem dX4_allows_95 : decode cX4_allows 95 = .ok (.iload 6, 2) := by decide +kernel
theorem dX4_allows_97 : decode cX4_allows 97 = .ok (.invokevirtual 123, 3) := by decide +kernel
theorem dX4_allows_100 : decode cX4_allows 100 = .ok (.ifCond .ne 5, 3) := by decide +kernel
theorem dX4_allows_103 : decode cX4_allows 103 = .ok (.iconst 0, 1) := by decide +kernel
theorem dX4_allows_104 : decode cX4_allows 104 = .ok (.ireturn, 1) := by decide +kernel
theorem dX4_allows_105 : decode cX4_allows 105 = .ok (.aload_n 0, 1) := by decide +kernel
theorem dX4_allows_106 : decode cX4_allows 106 = .ok (.aload 4, 2) := by decide +kernel
theorem dX4_allows_108 : decode cX4_allows 108 = .ok (.iload_n 3, 1) := by decide +kernel
theorem dX4_allows_109 : decode cX4_allows 109 = .ok (.invokevirtual 126, 3) := by decide +kernel
theorem dX4_allows_112 : decode cX4_allows 112 = .ok (.iconst 0, 1) := by decide +kernel
theorem dX4_allows_113 : decode cX4_allows 113 = .ok (.istore 7, 2) := by decide +kernel
theorem dX4_allows_115 : decode cX4_allows 115 = .ok (.iload 7, 2) := by decide +kernel
theorem dX4_allows_117 : decode cX4_allows 117 = .ok (.aload_n 1, 1) := by decide +kernel
theorem dX4_allows_118 : decode cX4_allows 118 = .ok (.getfield 93, 3) := by decide +kernel
theorem dX4_allows_121 : decode cX4_allows 121 = .ok (.if_icmp .ge 72, 3) := by decide +kernel
theorem dX4_allows_124 : decode cX4_allows 124 = .ok (.aload_n 1, 1) := by decide +kernel
theorem dX4_allows_125 : decode cX4_allows 125 = .ok (.iload 7, 2) := by decide +kernel
theorem dX4_allows_127 : decode cX4_allows 127 = .ok (.invokevirtual 98, 3) := by decide +kernel
theorem dX4_allows_130 : decode cX4_allows 130 = .ok (.astore 8, 2) := by decide +kernel
theorem dX4_allows_132 : decode cX4_allows 132 = .ok (.aload 8, 2) := by decide +kernel
theorem dX4_allows_134 : decode cX4_allows 134 = .ok (.ifnull 53, 3) := by decide +kernel
theorem dX4_allows_137 : decode cX4_allows 137 = .ok (.aload_n 1, 1) := by decide +kernel
theorem dX4_allows_138 : decode cX4_allows 138 = .ok (.iload 7, 2) := by decide +kernel
theorem dX4_allows_140 : decode cX4_allows 140 = .ok (.invokevirtual 102, 3) := by decide +kernel
theorem dX4_allows_143 : decode cX4_allows 143 = .ok (.aload_n 2, 1) := by decide +kernel
theorem dX4_allows_144 : decode cX4_allows 144 = .ok (.if_acmp .ne 6, 3) := by decide +kernel
theorem dX4_allows_147 : decode cX4_allows 147 = .ok (.goto 40, 3) := by decide +kernel
theorem dX4_allows_150 : decode cX4_allows 150 = .ok (.aload_n 0, 1) := by decide +kernel
theorem dX4_allows_151 : decode cX4_allows 151 = .ok (.getfield 33, 3) := by decide +kernel
theorem dX4_allows_154 : decode cX4_allows 154 = .ok (.aload 8, 2) := by decide +kernel
theorem dX4_allows_156 : decode cX4_allows 156 = .ok (.invokevirtual 130, 3) := by decide +kernel
theorem dX4_allows_159 : decode cX4_allows 159 = .ok (.aload_n 0, 1) := by decide +kernel
theorem dX4_allows_160 : decode cX4_allows 160 = .ok (.getfield 29, 3) := by decide +kernel
theorem dX4_allows_163 : decode cX4_allows 163 = .ok (.aload_n 0, 1) := by decide +kernel
theorem dX4_allows_164 : decode cX4_allows 164 = .ok (.getfield 33, 3) := by decide +kernel
theorem dX4_allows_167 : decode cX4_allows 167 = .ok (.invokevirtual 133, 3) := by decide +kernel
theorem dX4_allows_170 : decode cX4_allows 170 = .ok (.ifCond .ne 17, 3) := by decide +kernel
theorem dX4_allows_173 : decode cX4_allows 173 = .ok (.aload_n 0, 1) := by decide +kernel
theorem dX4_allows_174 : decode cX4_allows 174 = .ok (.aload 4, 2) := by decide +kernel
theorem dX4_allows_176 : decode cX4_allows 176 = .ok (.aload 8, 2) := by decide +kernel
theorem dX4_allows_178 : decode cX4_allows 178 = .ok (.iload_n 3, 1) := by decide +kernel
theorem dX4_allows_179 : decode cX4_allows 179 = .ok (.invokevirtual 137, 3) := by decide +kernel
theorem dX4_allows_182 : decode cX4_allows 182 = .ok (.ifCond .ne 5, 3) := by decide +kernel
theorem dX4_allows_185 : decode cX4_allows 185 = .ok (.iconst 0, 1) := by decide +kernel
theorem dX4_allows_186 : decode cX4_allows 186 = .ok (.ireturn, 1) := by decide +kernel
theorem dX4_allows_187 : decode cX4_allows 187 = .ok (.iinc 7 1, 3) := by decide +kernel
theorem dX4_allows_190 : decode cX4_allows 190 = .ok (.goto (-75), 3) := by decide +kernel
theorem dX4_allows_193 : decode cX4_allows 193 = .ok (.iconst 1, 1) := by decide +kernel
theorem dX4_allows_194 : decode cX4_allows 194 = .ok (.ireturn, 1) := by decide +kernel
theorem dX4_measureReach_0 : decode cX4_measureReach 0 = .ok (.iload_n 2, 1) := by decide +kernel
theorem dX4_measureReach_1 : decode cX4_measureReach 1 = .ok (.ifCond .lt 77, 3) := by decide +kernel
theorem dX4_measureReach_4 : decode cX4_measureReach 4 = .ok (.aload_n 0, 1) := by decide +kernel
theorem dX4_measureReach_5 : decode cX4_measureReach 5 = .ok (.getfield 29, 3) := by decide +kernel
theorem dX4_measureReach_8 : decode cX4_measureReach 8 = .ok (.aload_n 1, 1) := by decide +kernel
theorem dX4_measureReach_9 : decode cX4_measureReach 9 = .ok (.getfield 79, 3) := by decide +kernel
theorem dX4_measureReach_12 : decode cX4_measureReach 12 = .ok (.iload_n 2, 1) := by decide +kernel
theorem dX4_measureReach_13 : decode cX4_measureReach 13 = .ok (.iaload, 1) := by decide +kernel
theorem dX4_measureReach_14 : decode cX4_measureReach 14 = .ok (.aload_n 1, 1) := by decide +kernel
theorem dX4_measureReach_15 : decode cX4_measureReach 15 = .ok (.getfield 82, 3) := by decide +kernel
theorem dX4_measureReach_18 : decode cX4_measureReach 18 = .ok (.iload_n 2, 1) := by decide +kernel
theorem dX4_measureReach_19 : decode cX4_measureReach 19 = .ok (.iaload, 1) := by decide +kernel
theorem dX4_measureReach_20 : decode cX4_measureReach 20 = .ok (.invokevirtual 141, 3) := by decide +kernel
theorem dX4_measureReach_23 : decode cX4_measureReach 23 = .ok (.aload_n 0, 1) := by decide +kernel
theorem dX4_measureReach_24 : decode cX4_measureReach 24 = .ok (.getfield 29, 3) := by decide +kernel
theorem dX4_measureReach_27 : decode cX4_measureReach 27 = .ok (.aload_n 1, 1) := by decide +kernel
theorem dX4_measureReach_28 : decode cX4_measureReach 28 = .ok (.getfield 79, 3) := by decide +kernel
theorem dX4_measureReach_31 : decode cX4_measureReach 31 = .ok (.aload_n 1, 1) := by decide +kernel
theorem dX4_measureReach_32 : decode cX4_measureReach 32 = .ok (.iload_n 2, 1) := by decide +kernel
theorem dX4_measureReach_33 : decode cX4_measureReach 33 = .ok (.invokevirtual 114, 3) := by decide +kernel
theorem dX4_measureReach_36 : decode cX4_measureReach 36 = .ok (.iaload, 1) := by decide +kernel
theorem dX4_measureReach_37 : decode cX4_measureReach 37 = .ok (.aload_n 1, 1) := by decide +kernel
theorem dX4_measureReach_38 : decode cX4_measureReach 38 = .ok (.getfield 82, 3) := by decide +kernel
theorem dX4_measureReach_41 : decode cX4_measureReach 41 = .ok (.aload_n 1, 1) := by decide +kernel
theorem dX4_measureReach_42 : decode cX4_measureReach 42 = .ok (.iload_n 2, 1) := by decide +kernel
theorem dX4_measureReach_43 : decode cX4_measureReach 43 = .ok (.invokevirtual 114, 3) := by decide +kernel
theorem dX4_measureReach_46 : decode cX4_measureReach 46 = .ok (.iaload, 1) := by decide +kernel
theorem dX4_measureReach_47 : decode cX4_measureReach 47 = .ok (.invokevirtual 145, 3) := by decide +kernel
theorem dX4_measureReach_50 : decode cX4_measureReach 50 = .ok (.aload_n 0, 1) := by decide +kernel
theorem dX4_measureReach_51 : decode cX4_measureReach 51 = .ok (.getfield 29, 3) := by decide +kernel
theorem dX4_measureReach_54 : decode cX4_measureReach 54 = .ok (.aload_n 1, 1) := by decide +kernel
theorem dX4_measureReach_55 : decode cX4_measureReach 55 = .ok (.getfield 79, 3) := by decide +kernel
theorem dX4_measureReach_58 : decode cX4_measureReach 58 = .ok (.aload_n 1, 1) := by decide +kernel
theorem dX4_measureReach_59 : decode cX4_measureReach 59 = .ok (.iload_n 2, 1) := by decide +kernel
theorem dX4_measureReach_60 : decode cX4_measureReach 60 = .ok (.invokevirtual 148, 3) := by decide +kernel
theorem dX4_measureReach_63 : decode cX4_measureReach 63 = .ok (.iaload, 1) := by decide +kernel
theorem dX4_measureReach_64 : decode cX4_measureReach 64 = .ok (.aload_n 1, 1) := by decide +kernel
theorem dX4_measureReach_65 : decode cX4_measureReach 65 = .ok (.getfield 82, 3) := by decide +kernel
theorem dX4_measureReach_68 : decode cX4_measureReach 68 = .ok (.aload_n 1, 1) := by decide +kernel
theorem dX4_measureReach_69 : decode cX4_measureReach 69 = .ok (.iload_n 2, 1) := by decide +kernel
theorem dX4_measureReach_70 : decode cX4_measureReach 70 = .ok (.invokevirtual 148, 3) := by decide +kernel
theorem dX4_measureReach_73 : decode cX4_measureReach 73 = .ok (.iaload, 1) := by decide +kernel
theorem dX4_measureReach_74 : decode cX4_measureReach 74 = .ok (.invokevirtual 145, 3) := by decide +kernel
theorem dX4_measureReach_77 : decode cX4_measureReach 77 = .ok (.return_, 1) := by decide +kernel
theorem dX4_measureReach_78 : decode cX4_measureReach 78 = .ok (.aload_n 0, 1) := by decide +kernel
theorem dX4_measureReach_79 : decode cX4_measureReach 79 = .ok (.getfield 29, 3) := by decide +kernel
theorem dX4_measureReach_82 : decode cX4_measureReach 82 = .ok (.aload_n 1, 1) := by decide +kernel
theorem dX4_measureReach_83 : decode cX4_measureReach 83 = .ok (.invokevirtual 130, 3) := by decide +kernel
theorem dX4_measureReach_86 : decode cX4_measureReach 86 = .ok (.aload_n 0, 1) := by decide +kernel
theorem dX4_measureReach_87 : decode cX4_measureReach 87 = .ok (.getfield 29, 3) := by decide +kernel
theorem dX4_measureReach_90 : decode cX4_measureReach 90 = .ok (.aload_n 0, 1) := by decide +kernel
theorem dX4_measureReach_91 : decode cX4_measureReach 91 = .ok (.getfield 14, 3) := by decide +kernel
theorem dX4_measureReach_94 : decode cX4_measureReach 94 = .ok (.invokevirtual 151, 3) := by decide +kernel
theorem dX4_measureReach_97 : decode cX4_measureReach 97 = .ok (.return_, 1) := by decide +kernel
theorem dX4_isAsBefore_0 : decode cX4_isAsBefore 0 = .ok (.aload_n 1, 1) := by decide +kernel
theorem dX4_isAsBefore_1 : decode cX4_isAsBefore 1 = .ok (.aload_n 2, 1) := by decide +kernel
theorem dX4_isAsBefore_2 : decode cX4_isAsBefore 2 = .ok (.invokevirtual 154, 3) := by decide +kernel
theorem dX4_isAsBefore_5 : decode cX4_isAsBefore 5 = .ok (.aload_n 0, 1) := by decide +kernel
theorem dX4_isAsBefore_6 : decode cX4_isAsBefore 6 = .ok (.getfield 14, 3) := by decide +kernel
theorem dX4_isAsBefore_9 : decode cX4_isAsBefore 9 = .ok (.aload_n 2, 1) := by decide +kernel
theorem dX4_isAsBefore_10 : decode cX4_isAsBefore 10 = .ok (.invokevirtual 154, 3) := by decide +kernel
theorem dX4_isAsBefore_13 : decode cX4_isAsBefore 13 = .ok (.if_icmp .eq 5, 3) := by decide +kernel
theorem dX4_isAsBefore_16 : decode cX4_isAsBefore 16 = .ok (.iconst 0, 1) := by decide +kernel
theorem dX4_isAsBefore_17 : decode cX4_isAsBefore 17 = .ok (.ireturn, 1) := by decide +kernel
theorem dX4_isAsBefore_18 : decode cX4_isAsBefore 18 = .ok (.aload_n 0, 1) := by decide +kernel
theorem dX4_isAsBefore_19 : decode cX4_isAsBefore 19 = .ok (.getfield 14, 3) := by decide +kernel
theorem dX4_isAsBefore_22 : decode cX4_isAsBefore 22 = .ok (.getfield 51, 3) := by decide +kernel
theorem dX4_isAsBefore_25 : decode cX4_isAsBefore 25 = .ok (.ifCond .eq 14, 3) := by decide +kernel
theorem dX4_isAsBefore_28 : decode cX4_isAsBefore 28 = .ok (.aload_n 0, 1) := by decide +kernel
theorem dX4_isAsBefore_29 : decode cX4_isAsBefore 29 = .ok (.aload_n 1, 1) := by decide +kernel
theorem dX4_isAsBefore_30 : decode cX4_isAsBefore 30 = .ok (.aload_n 2, 1) := by decide +kernel
theorem dX4_isAsBefore_31 : decode cX4_isAsBefore 31 = .ok (.invokevirtual 158, 3) := by decide +kernel
theorem dX4_isAsBefore_34 : decode cX4_isAsBefore 34 = .ok (.ifCond .ne 5, 3) := by decide +kernel
theorem dX4_isAsBefore_37 : decode cX4_isAsBefore 37 = .ok (.iconst 0, 1) := by decide +kernel
theorem dX4_isAsBefore_38 : decode cX4_isAsBefore 38 = .ok (.ireturn, 1) := by decide +kernel
theorem dX4_isAsBefore_39 : decode cX4_isAsBefore 39 = .ok (.aload_n 2, 1) := by decide +kernel
theorem dX4_isAsBefore_40 : decode cX4_isAsBefore 40 = .ok (.getfield 51, 3) := by decide +kernel
theorem dX4_isAsBefore_43 : decode cX4_isAsBefore 43 = .ok (.ifCond .eq 21, 3) := by decide +kernel
theorem dX4_isAsBefore_46 : decode cX4_isAsBefore 46 = .ok (.aload_n 2, 1) := by decide +kernel
theorem dX4_isAsBefore_47 : decode cX4_isAsBefore 47 = .ok (.aload_n 1, 1) := by decide +kernel
theorem dX4_isAsBefore_48 : decode cX4_isAsBefore 48 = .ok (.invokestatic 162, 3) := by decide +kernel
theorem dX4_isAsBefore_51 : decode cX4_isAsBefore 51 = .ok (.aload_n 2, 1) := by decide +kernel
theorem dX4_isAsBefore_52 : decode cX4_isAsBefore 52 = .ok (.aload_n 0, 1) := by decide +kernel
theorem dX4_isAsBefore_53 : decode cX4_isAsBefore 53 = .ok (.getfield 14, 3) := by decide +kernel
theorem dX4_isAsBefore_56 : decode cX4_isAsBefore 56 = .ok (.invokestatic 162, 3) := by decide +kernel
theorem dX4_isAsBefore_59 : decode cX4_isAsBefore 59 = .ok (.if_icmp .eq 5, 3) := by decide +kernel
theorem dX4_isAsBefore_62 : decode cX4_isAsBefore 62 = .ok (.iconst 0, 1) := by decide +kernel
theorem dX4_isAsBefore_63 : decode cX4_isAsBefore 63 = .ok (.ireturn, 1) := by decide +kernel
theorem dX4_isAsBefore_64 : decode cX4_isAsBefore 64 = .ok (.aload_n 1, 1) := by decide +kernel
theorem dX4_isAsBefore_65 : decode cX4_isAsBefore 65 = .ok (.getfield 55, 3) := by decide +kernel
theorem dX4_isAsBefore_68 : decode cX4_isAsBefore 68 = .ok (.iconst 1, 1) := by decide +kernel
theorem dX4_isAsBefore_69 : decode cX4_isAsBefore 69 = .ok (.if_icmp .ne 10, 3) := by decide +kernel
theorem dX4_isAsBefore_72 : decode cX4_isAsBefore 72 = .ok (.aload_n 0, 1) := by decide +kernel
theorem dX4_isAsBefore_73 : decode cX4_isAsBefore 73 = .ok (.aload_n 1, 1) := by decide +kernel
theorem dX4_isAsBefore_74 : decode cX4_isAsBefore 74 = .ok (.aload_n 2, 1) := by decide +kernel
theorem dX4_isAsBefore_75 : decode cX4_isAsBefore 75 = .ok (.invokevirtual 165, 3) := by decide +kernel
theorem dX4_isAsBefore_78 : decode cX4_isAsBefore 78 = .ok (.ireturn, 1) := by decide +kernel
theorem dX4_isAsBefore_79 : decode cX4_isAsBefore 79 = .ok (.iload_n 3, 1) := by decide +kernel
theorem dX4_isAsBefore_80 : decode cX4_isAsBefore 80 = .ok (.bipush (-2), 2) := by decide +kernel
theorem dX4_isAsBefore_82 : decode cX4_isAsBefore 82 = .ok (.if_icmp .ne 5, 3) := by decide +kernel
theorem dX4_isAsBefore_85 : decode cX4_isAsBefore 85 = .ok (.iconst 1, 1) := by decide +kernel
theorem dX4_isAsBefore_86 : decode cX4_isAsBefore 86 = .ok (.ireturn, 1) := by decide +kernel
theorem dX4_isAsBefore_87 : decode cX4_isAsBefore 87 = .ok (.iload_n 3, 1) := by decide +kernel
theorem dX4_isAsBefore_88 : decode cX4_isAsBefore 88 = .ok (.iconst (-1), 1) := by decide +kernel
theorem dX4_isAsBefore_89 : decode cX4_isAsBefore 89 = .ok (.if_icmp .ne 20, 3) := by decide +kernel
theorem dX4_isAsBefore_92 : decode cX4_isAsBefore 92 = .ok (.aload_n 0, 1) := by decide +kernel
theorem dX4_isAsBefore_93 : decode cX4_isAsBefore 93 = .ok (.aload_n 1, 1) := by decide +kernel
theorem dX4_isAsBefore_94 : decode cX4_isAsBefore 94 = .ok (.aload_n 2, 1) := by decide +kernel
theorem dX4_isAsBefore_95 : decode cX4_isAsBefore 95 = .ok (.invokevirtual 168, 3) := by decide +kernel
theorem dX4_isAsBefore_98 : decode cX4_isAsBefore 98 = .ok (.ifCond .ne 7, 3) := by decide +kernel
theorem dX4_isAsBefore_101 : decode cX4_isAsBefore 101 = .ok (.iconst 1, 1) := by decide +kernel
theorem dX4_isAsBefore_102 : decode cX4_isAsBefore 102 = .ok (.goto 22, 3) := by decide +kernel
theorem dX4_isAsBefore_105 : decode cX4_isAsBefore 105 = .ok (.iconst 0, 1) := by decide +kernel
theorem dX4_isAsBefore_106 : decode cX4_isAsBefore 106 = .ok (.goto 18, 3) := by decide +kernel
theorem dX4_isAsBefore_109 : decode cX4_isAsBefore 109 = .ok (.aload_n 0, 1) := by decide +kernel
theorem dX4_isAsBefore_110 : decode cX4_isAsBefore 110 = .ok (.aload_n 1, 1) := by decide +kernel
theorem dX4_isAsBefore_111 : decode cX4_isAsBefore 111 = .ok (.aload_n 2, 1) := by decide +kernel
theorem dX4_isAsBefore_112 : decode cX4_isAsBefore 112 = .ok (.iload_n 3, 1) := by decide +kernel
theorem dX4_isAsBefore_113 : decode cX4_isAsBefore 113 = .ok (.invokevirtual 171, 3) := by decide +kernel
theorem dX4_isAsBefore_116 : decode cX4_isAsBefore 116 = .ok (.ifCond .ne 7, 3) := by decide +kernel
theorem dX4_isAsBefore_119 : decode cX4_isAsBefore 119 = .ok (.iconst 1, 1) := by decide +kernel
theorem dX4_isAsBefore_120 : decode cX4_isAsBefore 120 = .ok (.goto 4, 3) := by decide +kernel
theorem dX4_isAsBefore_123 : decode cX4_isAsBefore 123 = .ok (.iconst 0, 1) := by decide +kernel
theorem dX4_isAsBefore_124 : decode cX4_isAsBefore 124 = .ok (.ireturn, 1) := by decide +kernel
theorem dX4_holdsAsBefore_0 : decode cX4_holdsAsBefore 0 = .ok (.iconst 0, 1) := by decide +kernel
theorem dX4_holdsAsBefore_1 : decode cX4_holdsAsBefore 1 = .ok (.istore_n 3, 1) := by decide +kernel
theorem dX4_holdsAsBefore_2 : decode cX4_holdsAsBefore 2 = .ok (.iload_n 3, 1) := by decide +kernel
theorem dX4_holdsAsBefore_3 : decode cX4_holdsAsBefore 3 = .ok (.aload_n 2, 1) := by decide +kernel
theorem dX4_holdsAsBefore_4 : decode cX4_holdsAsBefore 4 = .ok (.getfield 55, 3) := by decide +kernel
theorem dX4_holdsAsBefore_7 : decode cX4_holdsAsBefore 7 = .ok (.if_icmp .ge 71, 3) := by decide +kernel
theorem dX4_holdsAsBefore_10 : decode cX4_holdsAsBefore 10 = .ok (.aload_n 1, 1) := by decide +kernel
theorem dX4_holdsAsBefore_11 : decode cX4_holdsAsBefore 11 = .ok (.aload_n 2, 1) := by decide +kernel
theorem dX4_holdsAsBefore_12 : decode cX4_holdsAsBefore 12 = .ok (.getfield 79, 3) := by decide +kernel
theorem dX4_holdsAsBefore_15 : decode cX4_holdsAsBefore 15 = .ok (.iload_n 3, 1) := by decide +kernel
theorem dX4_holdsAsBefore_16 : decode cX4_holdsAsBefore 16 = .ok (.iaload, 1) := by decide +kernel
theorem dX4_holdsAsBefore_17 : decode cX4_holdsAsBefore 17 = .ok (.aload_n 2, 1) := by decide +kernel
theorem dX4_holdsAsBefore_18 : decode cX4_holdsAsBefore 18 = .ok (.getfield 82, 3) := by decide +kernel
theorem dX4_holdsAsBefore_21 : decode cX4_holdsAsBefore 21 = .ok (.iload_n 3, 1) := by decide +kernel
theorem dX4_holdsAsBefore_22 : decode cX4_holdsAsBefore 22 = .ok (.iaload, 1) := by decide +kernel
theorem dX4_holdsAsBefore_23 : decode cX4_holdsAsBefore 23 = .ok (.invokevirtual 174, 3) := by decide +kernel
theorem dX4_holdsAsBefore_26 : decode cX4_holdsAsBefore 26 = .ok (.iconst 1, 1) := by decide +kernel
theorem dX4_holdsAsBefore_27 : decode cX4_holdsAsBefore 27 = .ok (.if_icmp .ne 7, 3) := by decide +kernel
theorem dX4_holdsAsBefore_30 : decode cX4_holdsAsBefore 30 = .ok (.iconst 1, 1) := by decide +kernel
theorem dX4_holdsAsBefore_31 : decode cX4_holdsAsBefore 31 = .ok (.goto 4, 3) := by decide +kernel
theorem dX4_holdsAsBefore_34 : decode cX4_holdsAsBefore 34 = .ok (.iconst 0, 1) := by decide +kernel
theorem dX4_holdsAsBefore_35 : decode cX4_holdsAsBefore 35 = .ok (.istore 4, 2) := by decide +kernel
theorem dX4_holdsAsBefore_37 : decode cX4_holdsAsBefore 37 = .ok (.iload 4, 2) := by decide +kernel
theorem dX4_holdsAsBefore_39 : decode cX4_holdsAsBefore 39 = .ok (.aload_n 0, 1) := by decide +kernel
theorem dX4_holdsAsBefore_40 : decode cX4_holdsAsBefore 40 = .ok (.getfield 14, 3) := by decide +kernel
theorem dX4_holdsAsBefore_43 : decode cX4_holdsAsBefore 43 = .ok (.aload_n 2, 1) := by decide +kernel
theorem dX4_holdsAsBefore_44 : decode cX4_holdsAsBefore 44 = .ok (.getfield 79, 3) := by decide +kernel
theorem dX4_holdsAsBefore_47 : decode cX4_holdsAsBefore 47 = .ok (.iload_n 3, 1) := by decide +kernel
theorem dX4_holdsAsBefore_48 : decode cX4_holdsAsBefore 48 = .ok (.iaload, 1) := by decide +kernel
theorem dX4_holdsAsBefore_49 : decode cX4_holdsAsBefore 49 = .ok (.aload_n 2, 1) := by decide +kernel
theorem dX4_holdsAsBefore_50 : decode cX4_holdsAsBefore 50 = .ok (.getfield 82, 3) := by decide +kernel
theorem dX4_holdsAsBefore_53 : decode cX4_holdsAsBefore 53 = .ok (.iload_n 3, 1) := by decide +kernel
theorem dX4_holdsAsBefore_54 : decode cX4_holdsAsBefore 54 = .ok (.iaload, 1) := by decide +kernel
theorem dX4_holdsAsBefore_55 : decode cX4_holdsAsBefore 55 = .ok (.invokevirtual 174, 3) := by decide +kernel
theorem dX4_holdsAsBefore_58 : decode cX4_holdsAsBefore 58 = .ok (.iconst 1, 1) := by decide +kernel
theorem dX4_holdsAsBefore_59 : decode cX4_holdsAsBefore 59 = .ok (.if_icmp .ne 7, 3) := by decide +kernel
theorem dX4_holdsAsBefore_62 : decode cX4_holdsAsBefore 62 = .ok (.iconst 1, 1) := by decide +kernel
theorem dX4_holdsAsBefore_63 : decode cX4_holdsAsBefore 63 = .ok (.goto 4, 3) := by decide +kernel
theorem dX4_holdsAsBefore_66 : decode cX4_holdsAsBefore 66 = .ok (.iconst 0, 1) := by decide +kernel
theorem dX4_holdsAsBefore_67 : decode cX4_holdsAsBefore 67 = .ok (.if_icmp .eq 5, 3) := by decide +kernel
theorem dX4_holdsAsBefore_70 : decode cX4_holdsAsBefore 70 = .ok (.iconst 0, 1) := by decide +kernel
theorem dX4_holdsAsBefore_71 : decode cX4_holdsAsBefore 71 = .ok (.ireturn, 1) := by decide +kernel
theorem dX4_holdsAsBefore_72 : decode cX4_holdsAsBefore 72 = .ok (.iinc 3 1, 3) := by decide +kernel
theorem dX4_holdsAsBefore_75 : decode cX4_holdsAsBefore 75 = .ok (.goto (-73), 3) := by decide +kernel
theorem dX4_holdsAsBefore_78 : decode cX4_holdsAsBefore 78 = .ok (.iconst 1, 1) := by decide +kernel
theorem dX4_holdsAsBefore_79 : decode cX4_holdsAsBefore 79 = .ok (.ireturn, 1) := by decide +kernel
theorem dX4_isIn_0 : decode cX4_isIn 0 = .ok (.aload_n 0, 1) := by decide +kernel
theorem dX4_isIn_1 : decode cX4_isIn 1 = .ok (.aload_n 1, 1) := by decide +kernel
theorem dX4_isIn_2 : decode cX4_isIn 2 = .ok (.getfield 79, 3) := by decide +kernel
theorem dX4_isIn_5 : decode cX4_isIn 5 = .ok (.iconst 0, 1) := by decide +kernel
theorem dX4_isIn_6 : decode cX4_isIn 6 = .ok (.iaload, 1) := by decide +kernel
theorem dX4_isIn_7 : decode cX4_isIn 7 = .ok (.aload_n 1, 1) := by decide +kernel
theorem dX4_isIn_8 : decode cX4_isIn 8 = .ok (.getfield 82, 3) := by decide +kernel
theorem dX4_isIn_11 : decode cX4_isIn 11 = .ok (.iconst 0, 1) := by decide +kernel
theorem dX4_isIn_12 : decode cX4_isIn 12 = .ok (.iaload, 1) := by decide +kernel
theorem dX4_isIn_13 : decode cX4_isIn 13 = .ok (.invokevirtual 174, 3) := by decide +kernel
theorem dX4_isIn_16 : decode cX4_isIn 16 = .ok (.iconst 1, 1) := by decide +kernel
theorem dX4_isIn_17 : decode cX4_isIn 17 = .ok (.if_icmp .ne 7, 3) := by decide +kernel
theorem dX4_isIn_20 : decode cX4_isIn 20 = .ok (.iconst 1, 1) := by decide +kernel
theorem dX4_isIn_21 : decode cX4_isIn 21 = .ok (.goto 4, 3) := by decide +kernel
theorem dX4_isIn_24 : decode cX4_isIn 24 = .ok (.iconst 0, 1) := by decide +kernel
theorem dX4_isIn_25 : decode cX4_isIn 25 = .ok (.ireturn, 1) := by decide +kernel
theorem dX4_isWayFree_0 : decode cX4_isWayFree 0 = .ok (.aload_n 0, 1) := by decide +kernel
theorem dX4_isWayFree_1 : decode cX4_isWayFree 1 = .ok (.getfield 23, 3) := by decide +kernel
theorem dX4_isWayFree_4 : decode cX4_isWayFree 4 = .ok (.iconst 0, 1) := by decide +kernel
theorem dX4_isWayFree_5 : decode cX4_isWayFree 5 = .ok (.invokevirtual 177, 3) := by decide +kernel
theorem dX4_isWayFree_8 : decode cX4_isWayFree 8 = .ok (.aload_n 0, 1) := by decide +kernel
theorem dX4_isWayFree_9 : decode cX4_isWayFree 9 = .ok (.getfield 23, 3) := by decide +kernel
theorem dX4_isWayFree_12 : decode cX4_isWayFree 12 = .ok (.aload_n 1, 1) := by decide +kernel
theorem dX4_isWayFree_13 : decode cX4_isWayFree 13 = .ok (.getfield 79, 3) := by decide +kernel
theorem dX4_isWayFree_16 : decode cX4_isWayFree 16 = .ok (.iconst 0, 1) := by decide +kernel
theorem dX4_isWayFree_17 : decode cX4_isWayFree 17 = .ok (.iaload, 1) := by decide +kernel
theorem dX4_isWayFree_18 : decode cX4_isWayFree 18 = .ok (.aload_n 1, 1) := by decide +kernel
theorem dX4_isWayFree_19 : decode cX4_isWayFree 19 = .ok (.getfield 82, 3) := by decide +kernel
theorem dX4_isWayFree_22 : decode cX4_isWayFree 22 = .ok (.iconst 0, 1) := by decide +kernel
theorem dX4_isWayFree_23 : decode cX4_isWayFree 23 = .ok (.iaload, 1) := by decide +kernel
theorem dX4_isWayFree_24 : decode cX4_isWayFree 24 = .ok (.invokevirtual 181, 3) := by decide +kernel
theorem dX4_isWayFree_27 : decode cX4_isWayFree 27 = .ok (.aload_n 0, 1) := by decide +kernel
theorem dX4_isWayFree_28 : decode cX4_isWayFree 28 = .ok (.getfield 23, 3) := by decide +kernel
theorem dX4_isWayFree_31 : decode cX4_isWayFree 31 = .ok (.aload_n 0, 1) := by decide +kernel
theorem dX4_isWayFree_32 : decode cX4_isWayFree 32 = .ok (.getfield 14, 3) := by decide +kernel
theorem dX4_isWayFree_35 : decode cX4_isWayFree 35 = .ok (.getfield 79, 3) := by decide +kernel
theorem dX4_isWayFree_38 : decode cX4_isWayFree 38 = .ok (.iconst 0, 1) := by decide +kernel
theorem dX4_isWayFree_39 : decode cX4_isWayFree 39 = .ok (.iaload, 1) := by decide +kernel
theorem dX4_isWayFree_40 : decode cX4_isWayFree 40 = .ok (.aload_n 0, 1) := by decide +kernel
theorem dX4_isWayFree_41 : decode cX4_isWayFree 41 = .ok (.getfield 14, 3) := by decide +kernel
theorem dX4_isWayFree_44 : decode cX4_isWayFree 44 = .ok (.getfield 82, 3) := by decide +kernel
theorem dX4_isWayFree_47 : decode cX4_isWayFree 47 = .ok (.iconst 0, 1) := by decide +kernel
theorem dX4_isWayFree_48 : decode cX4_isWayFree 48 = .ok (.iaload, 1) := by decide +kernel
theorem dX4_isWayFree_49 : decode cX4_isWayFree 49 = .ok (.invokevirtual 181, 3) := by decide +kernel
theorem dX4_isWayFree_52 : decode cX4_isWayFree 52 = .ok (.iconst 0, 1) := by decide +kernel
theorem dX4_isWayFree_53 : decode cX4_isWayFree 53 = .ok (.istore_n 3, 1) := by decide +kernel
theorem dX4_isWayFree_54 : decode cX4_isWayFree 54 = .ok (.iload_n 3, 1) := by decide +kernel
theorem dX4_isWayFree_55 : decode cX4_isWayFree 55 = .ok (.aload_n 2, 1) := by decide +kernel
theorem dX4_isWayFree_56 : decode cX4_isWayFree 56 = .ok (.invokevirtual 184, 3) := by decide +kernel
theorem dX4_isWayFree_59 : decode cX4_isWayFree 59 = .ok (.if_icmp .ge 94, 3) := by decide +kernel
theorem dX4_isWayFree_62 : decode cX4_isWayFree 62 = .ok (.aload_n 0, 1) := by decide +kernel
theorem dX4_isWayFree_63 : decode cX4_isWayFree 63 = .ok (.getfield 23, 3) := by decide +kernel
theorem dX4_isWayFree_66 : decode cX4_isWayFree 66 = .ok (.iconst 0, 1) := by decide +kernel
theorem dX4_isWayFree_67 : decode cX4_isWayFree 67 = .ok (.aload_n 2, 1) := by decide +kernel
theorem dX4_isWayFree_68 : decode cX4_isWayFree 68 = .ok (.iload_n 3, 1) := by decide +kernel
theorem dX4_isWayFree_69 : decode cX4_isWayFree 69 = .ok (.invokevirtual 188, 3) := by decide +kernel
theorem dX4_isWayFree_72 : decode cX4_isWayFree 72 = .ok (.ifCond .ne 6, 3) := by decide +kernel
theorem dX4_isWayFree_75 : decode cX4_isWayFree 75 = .ok (.goto 72, 3) := by decide +kernel
theorem dX4_isWayFree_78 : decode cX4_isWayFree 78 = .ok (.aload_n 2, 1) := by decide +kernel
theorem dX4_isWayFree_79 : decode cX4_isWayFree 79 = .ok (.iload_n 3, 1) := by decide +kernel
theorem dX4_isWayFree_80 : decode cX4_isWayFree 80 = .ok (.invokevirtual 148, 3) := by decide +kernel
theorem dX4_isWayFree_83 : decode cX4_isWayFree 83 = .ok (.istore 4, 2) := by decide +kernel
theorem dX4_isWayFree_85 : decode cX4_isWayFree 85 = .ok (.aload_n 2, 1) := by decide +kernel
theorem dX4_isWayFree_86 : decode cX4_isWayFree 86 = .ok (.iload_n 3, 1) := by decide +kernel
theorem dX4_isWayFree_87 : decode cX4_isWayFree 87 = .ok (.aload_n 1, 1) := by decide +kernel
theorem dX4_isWayFree_88 : decode cX4_isWayFree 88 = .ok (.getfield 79, 3) := by decide +kernel
theorem dX4_isWayFree_91 : decode cX4_isWayFree 91 = .ok (.iconst 0, 1) := by decide +kernel
theorem dX4_isWayFree_92 : decode cX4_isWayFree 92 = .ok (.iaload, 1) := by decide +kernel
theorem dX4_isWayFree_93 : decode cX4_isWayFree 93 = .ok (.aload_n 1, 1) := by decide +kernel
theorem dX4_isWayFree_94 : decode cX4_isWayFree 94 = .ok (.getfield 82, 3) := by decide +kernel
theorem dX4_isWayFree_97 : decode cX4_isWayFree 97 = .ok (.iconst 0, 1) := by decide +kernel
theorem dX4_isWayFree_98 : decode cX4_isWayFree 98 = .ok (.iaload, 1) := by decide +kernel
theorem dX4_isWayFree_99 : decode cX4_isWayFree 99 = .ok (.invokevirtual 192, 3) := by decide +kernel
theorem dX4_isWayFree_102 : decode cX4_isWayFree 102 = .ok (.ifCond .eq 43, 3) := by decide +kernel
theorem dX4_isWayFree_105 : decode cX4_isWayFree 105 = .ok (.aload_n 0, 1) := by decide +kernel
theorem dX4_isWayFree_106 : decode cX4_isWayFree 106 = .ok (.aload_n 2, 1) := by decide +kernel
theorem dX4_isWayFree_107 : decode cX4_isWayFree 107 = .ok (.getfield 79, 3) := by decide +kernel
theorem dX4_isWayFree_110 : decode cX4_isWayFree 110 = .ok (.iload_n 3, 1) := by decide +kernel
theorem dX4_isWayFree_111 : decode cX4_isWayFree 111 = .ok (.iaload, 1) := by decide +kernel
theorem dX4_isWayFree_112 : decode cX4_isWayFree 112 = .ok (.aload_n 2, 1) := by decide +kernel
theorem dX4_isWayFree_113 : decode cX4_isWayFree 113 = .ok (.getfield 82, 3) := by decide +kernel
theorem dX4_isWayFree_116 : decode cX4_isWayFree 116 = .ok (.iload_n 3, 1) := by decide +kernel
theorem dX4_isWayFree_117 : decode cX4_isWayFree 117 = .ok (.iaload, 1) := by decide +kernel
theorem dX4_isWayFree_118 : decode cX4_isWayFree 118 = .ok (.invokevirtual 196, 3) := by decide +kernel
theorem dX4_isWayFree_121 : decode cX4_isWayFree 121 = .ok (.ifCond .ne 24, 3) := by decide +kernel
theorem dX4_isWayFree_124 : decode cX4_isWayFree 124 = .ok (.aload_n 0, 1) := by decide +kernel
theorem dX4_isWayFree_125 : decode cX4_isWayFree 125 = .ok (.aload_n 2, 1) := by decide +kernel
theorem dX4_isWayFree_126 : decode cX4_isWayFree 126 = .ok (.getfield 79, 3) := by decide +kernel
theorem dX4_isWayFree_129 : decode cX4_isWayFree 129 = .ok (.iload 4, 2) := by decide +kernel
theorem dX4_isWayFree_131 : decode cX4_isWayFree 131 = .ok (.iaload, 1) := by decide +kernel
theorem dX4_isWayFree_132 : decode cX4_isWayFree 132 = .ok (.aload_n 2, 1) := by decide +kernel
theorem dX4_isWayFree_133 : decode cX4_isWayFree 133 = .ok (.getfield 82, 3) := by decide +kernel
theorem dX4_isWayFree_136 : decode cX4_isWayFree 136 = .ok (.iload 4, 2) := by decide +kernel
theorem dX4_isWayFree_138 : decode cX4_isWayFree 138 = .ok (.iaload, 1) := by decide +kernel
theorem dX4_isWayFree_139 : decode cX4_isWayFree 139 = .ok (.invokevirtual 196, 3) := by decide +kernel
theorem dX4_isWayFree_142 : decode cX4_isWayFree 142 = .ok (.ifCond .eq 5, 3) := by decide +kernel
theorem dX4_isWayFree_145 : decode cX4_isWayFree 145 = .ok (.iconst 0, 1) := by decide +kernel
theorem dX4_isWayFree_146 : decode cX4_isWayFree 146 = .ok (.ireturn, 1) := by decide +kernel
theorem dX4_isWayFree_147 : decode cX4_isWayFree 147 = .ok (.iinc 3 1, 3) := by decide +kernel
theorem dX4_isWayFree_150 : decode cX4_isWayFree 150 = .ok (.goto (-96), 3) := by decide +kernel
theorem dX4_isWayFree_153 : decode cX4_isWayFree 153 = .ok (.iconst 1, 1) := by decide +kernel
theorem dX4_isWayFree_154 : decode cX4_isWayFree 154 = .ok (.ireturn, 1) := by decide +kernel
theorem dX4_leadsTo_0 : decode cX4_leadsTo 0 = .ok (.aload_n 0, 1) := by decide +kernel
theorem dX4_leadsTo_1 : decode cX4_leadsTo 1 = .ok (.getfield 23, 3) := by decide +kernel
theorem dX4_leadsTo_4 : decode cX4_leadsTo 4 = .ok (.getfield 79, 3) := by decide +kernel
theorem dX4_leadsTo_7 : decode cX4_leadsTo 7 = .ok (.iconst 1, 1) := by decide +kernel
theorem dX4_leadsTo_8 : decode cX4_leadsTo 8 = .ok (.iaload, 1) := by decide +kernel
theorem dX4_leadsTo_9 : decode cX4_leadsTo 9 = .ok (.aload_n 0, 1) := by decide +kernel
theorem dX4_leadsTo_10 : decode cX4_leadsTo 10 = .ok (.getfield 23, 3) := by decide +kernel
theorem dX4_leadsTo_13 : decode cX4_leadsTo 13 = .ok (.getfield 79, 3) := by decide +kernel
theorem dX4_leadsTo_16 : decode cX4_leadsTo 16 = .ok (.iconst 0, 1) := by decide +kernel
theorem dX4_leadsTo_17 : decode cX4_leadsTo 17 = .ok (.iaload, 1) := by decide +kernel
theorem dX4_leadsTo_18 : decode cX4_leadsTo 18 = .ok (.isub, 1) := by decide +kernel
theorem dX4_leadsTo_19 : decode cX4_leadsTo 19 = .ok (.iload_n 1, 1) := by decide +kernel
theorem dX4_leadsTo_20 : decode cX4_leadsTo 20 = .ok (.aload_n 0, 1) := by decide +kernel
theorem dX4_leadsTo_21 : decode cX4_leadsTo 21 = .ok (.getfield 23, 3) := by decide +kernel
theorem dX4_leadsTo_24 : decode cX4_leadsTo 24 = .ok (.getfield 79, 3) := by decide +kernel
theorem dX4_leadsTo_27 : decode cX4_leadsTo 27 = .ok (.iconst 0, 1) := by decide +kernel
theorem dX4_leadsTo_28 : decode cX4_leadsTo 28 = .ok (.iaload, 1) := by decide +kernel
theorem dX4_leadsTo_29 : decode cX4_leadsTo 29 = .ok (.isub, 1) := by decide +kernel
theorem dX4_leadsTo_30 : decode cX4_leadsTo 30 = .ok (.imul, 1) := by decide +kernel
theorem dX4_leadsTo_31 : decode cX4_leadsTo 31 = .ok (.aload_n 0, 1) := by decide +kernel
theorem dX4_leadsTo_32 : decode cX4_leadsTo 32 = .ok (.getfield 23, 3) := by decide +kernel
theorem dX4_leadsTo_35 : decode cX4_leadsTo 35 = .ok (.getfield 82, 3) := by decide +kernel
theorem dX4_leadsTo_38 : decode cX4_leadsTo 38 = .ok (.iconst 1, 1) := by decide +kernel
theorem dX4_leadsTo_39 : decode cX4_leadsTo 39 = .ok (.iaload, 1) := by decide +kernel
theorem dX4_leadsTo_40 : decode cX4_leadsTo 40 = .ok (.aload_n 0, 1) := by decide +kernel
theorem dX4_leadsTo_41 : decode cX4_leadsTo 41 = .ok (.getfield 23, 3) := by decide +kernel
theorem dX4_leadsTo_44 : decode cX4_leadsTo 44 = .ok (.getfield 82, 3) := by decide +kernel
theorem dX4_leadsTo_47 : decode cX4_leadsTo 47 = .ok (.iconst 0, 1) := by decide +kernel
theorem dX4_leadsTo_48 : decode cX4_leadsTo 48 = .ok (.iaload, 1) := by decide +kernel
theorem dX4_leadsTo_49 : decode cX4_leadsTo 49 = .ok (.isub, 1) := by decide +kernel
theorem dX4_leadsTo_50 : decode cX4_leadsTo 50 = .ok (.iload_n 2, 1) := by decide +kernel
theorem dX4_leadsTo_51 : decode cX4_leadsTo 51 = .ok (.aload_n 0, 1) := by decide +kernel
theorem dX4_leadsTo_52 : decode cX4_leadsTo 52 = .ok (.getfield 23, 3) := by decide +kernel
theorem dX4_leadsTo_55 : decode cX4_leadsTo 55 = .ok (.getfield 82, 3) := by decide +kernel
theorem dX4_leadsTo_58 : decode cX4_leadsTo 58 = .ok (.iconst 0, 1) := by decide +kernel
theorem dX4_leadsTo_59 : decode cX4_leadsTo 59 = .ok (.iaload, 1) := by decide +kernel
theorem dX4_leadsTo_60 : decode cX4_leadsTo 60 = .ok (.isub, 1) := by decide +kernel
theorem dX4_leadsTo_61 : decode cX4_leadsTo 61 = .ok (.imul, 1) := by decide +kernel
theorem dX4_leadsTo_62 : decode cX4_leadsTo 62 = .ok (.iadd, 1) := by decide +kernel
theorem dX4_leadsTo_63 : decode cX4_leadsTo 63 = .ok (.istore_n 3, 1) := by decide +kernel
theorem dX4_leadsTo_64 : decode cX4_leadsTo 64 = .ok (.aload_n 0, 1) := by decide +kernel
theorem dX4_leadsTo_65 : decode cX4_leadsTo 65 = .ok (.getfield 23, 3) := by decide +kernel
theorem dX4_leadsTo_68 : decode cX4_leadsTo 68 = .ok (.iconst 0, 1) := by decide +kernel
theorem dX4_leadsTo_69 : decode cX4_leadsTo 69 = .ok (.iload_n 1, 1) := by decide +kernel
theorem dX4_leadsTo_70 : decode cX4_leadsTo 70 = .ok (.iload_n 2, 1) := by decide +kernel
theorem dX4_leadsTo_71 : decode cX4_leadsTo 71 = .ok (.invokevirtual 199, 3) := by decide +kernel
theorem dX4_leadsTo_74 : decode cX4_leadsTo 74 = .ok (.ifCond .ne 11, 3) := by decide +kernel
theorem dX4_leadsTo_77 : decode cX4_leadsTo 77 = .ok (.iload_n 3, 1) := by decide +kernel
theorem dX4_leadsTo_78 : decode cX4_leadsTo 78 = .ok (.ifCond .le 7, 3) := by decide +kernel
theorem dX4_leadsTo_81 : decode cX4_leadsTo 81 = .ok (.iconst 1, 1) := by decide +kernel
theorem dX4_leadsTo_82 : decode cX4_leadsTo 82 = .ok (.goto 4, 3) := by decide +kernel
theorem dX4_leadsTo_85 : decode cX4_leadsTo 85 = .ok (.iconst 0, 1) := by decide +kernel
theorem dX4_leadsTo_86 : decode cX4_leadsTo 86 = .ok (.ireturn, 1) := by decide +kernel
theorem dX4_isSweptByCut_0 : decode cX4_isSweptByCut 0 = .ok (.aload_n 1, 1) := by decide +kernel
theorem dX4_isSweptByCut_1 : decode cX4_isSweptByCut 1 = .ok (.iload_n 3, 1) := by decide +kernel
theorem dX4_isSweptByCut_2 : decode cX4_isSweptByCut 2 = .ok (.invokevirtual 114, 3) := by decide +kernel
theorem dX4_isSweptByCut_5 : decode cX4_isSweptByCut 5 = .ok (.istore 4, 2) := by decide +kernel
theorem dX4_isSweptByCut_7 : decode cX4_isSweptByCut 7 = .ok (.aload_n 1, 1) := by decide +kernel
theorem dX4_isSweptByCut_8 : decode cX4_isSweptByCut 8 = .ok (.iload_n 3, 1) := by decide +kernel
theorem dX4_isSweptByCut_9 : decode cX4_isSweptByCut 9 = .ok (.invokevirtual 148, 3) := by decide +kernel
theorem dX4_isSweptByCut_12 : decode cX4_isSweptByCut 12 = .ok (.istore 5, 2) := by decide +kernel
theorem dX4_isSweptByCut_14 : decode cX4_isSweptByCut 14 = .ok (.aload_n 0, 1) := by decide +kernel
theorem dX4_isSweptByCut_15 : decode cX4_isSweptByCut 15 = .ok (.aload_n 1, 1) := by decide +kernel
theorem dX4_isSweptByCut_16 : decode cX4_isSweptByCut 16 = .ok (.iload 4, 2) := by decide +kernel
theorem dX4_isSweptByCut_18 : decode cX4_isSweptByCut 18 = .ok (.aload_n 1, 1) := by decide +kernel
theorem dX4_isSweptByCut_19 : decode cX4_isSweptByCut 19 = .ok (.iload_n 3, 1) := by decide +kernel
theorem dX4_isSweptByCut_20 : decode cX4_isSweptByCut 20 = .ok (.aload_n 1, 1) := by decide +kernel
theorem dX4_isSweptByCut_21 : decode cX4_isSweptByCut 21 = .ok (.iload 5, 2) := by decide +kernel
theorem dX4_isSweptByCut_23 : decode cX4_isSweptByCut 23 = .ok (.invokevirtual 203, 3) := by decide +kernel
theorem dX4_isSweptByCut_26 : decode cX4_isSweptByCut 26 = .ok (.aload_n 0, 1) := by decide +kernel
theorem dX4_isSweptByCut_27 : decode cX4_isSweptByCut 27 = .ok (.aload_n 2, 1) := by decide +kernel
theorem dX4_isSweptByCut_28 : decode cX4_isSweptByCut 28 = .ok (.aload_n 1, 1) := by decide +kernel
theorem dX4_isSweptByCut_29 : decode cX4_isSweptByCut 29 = .ok (.iload 4, 2) := by decide +kernel
theorem dX4_isSweptByCut_31 : decode cX4_isSweptByCut 31 = .ok (.aload_n 1, 1) := by decide +kernel
theorem dX4_isSweptByCut_32 : decode cX4_isSweptByCut 32 = .ok (.iload 5, 2) := by decide +kernel
theorem dX4_isSweptByCut_34 : decode cX4_isSweptByCut 34 = .ok (.invokevirtual 207, 3) := by decide +kernel
theorem dX4_isSweptByCut_37 : decode cX4_isSweptByCut 37 = .ok (.ireturn, 1) := by decide +kernel
theorem dX4_isSweptByMove_0 : decode cX4_isSweptByMove 0 = .ok (.iconst 0, 1) := by decide +kernel
theorem dX4_isSweptByMove_1 : decode cX4_isSweptByMove 1 = .ok (.istore_n 3, 1) := by decide +kernel
theorem dX4_isSweptByMove_2 : decode cX4_isSweptByMove 2 = .ok (.iload_n 3, 1) := by decide +kernel
theorem dX4_isSweptByMove_3 : decode cX4_isSweptByMove 3 = .ok (.aload_n 1, 1) := by decide +kernel
theorem dX4_isSweptByMove_4 : decode cX4_isSweptByMove 4 = .ok (.invokevirtual 211, 3) := by decide +kernel
theorem dX4_isSweptByMove_7 : decode cX4_isSweptByMove 7 = .ok (.if_icmp .ge 158, 3) := by decide +kernel
theorem dX4_isSweptByMove_10 : decode cX4_isSweptByMove 10 = .ok (.aload_n 1, 1) := by decide +kernel
theorem dX4_isSweptByMove_11 : decode cX4_isSweptByMove 11 = .ok (.iload_n 3, 1) := by decide +kernel
theorem dX4_isSweptByMove_12 : decode cX4_isSweptByMove 12 = .ok (.invokevirtual 148, 3) := by decide +kernel
theorem dX4_isSweptByMove_15 : decode cX4_isSweptByMove 15 = .ok (.istore 4, 2) := by decide +kernel
theorem dX4_isSweptByMove_17 : decode cX4_isSweptByMove 17 = .ok (.aload_n 0, 1) := by decide +kernel
theorem dX4_isSweptByMove_18 : decode cX4_isSweptByMove 18 = .ok (.getfield 14, 3) := by decide +kernel
theorem dX4_isSweptByMove_21 : decode cX4_isSweptByMove 21 = .ok (.iload_n 3, 1) := by decide +kernel
theorem dX4_isSweptByMove_22 : decode cX4_isSweptByMove 22 = .ok (.aload_n 1, 1) := by decide +kernel
theorem dX4_isSweptByMove_23 : decode cX4_isSweptByMove 23 = .ok (.getfield 79, 3) := by decide +kernel
theorem dX4_isSweptByMove_26 : decode cX4_isSweptByMove 26 = .ok (.iload_n 3, 1) := by decide +kernel
theorem dX4_isSweptByMove_27 : decode cX4_isSweptByMove 27 = .ok (.iaload, 1) := by decide +kernel
theorem dX4_isSweptByMove_28 : decode cX4_isSweptByMove 28 = .ok (.aload_n 1, 1) := by decide +kernel
theorem dX4_isSweptByMove_29 : decode cX4_isSweptByMove 29 = .ok (.getfield 82, 3) := by decide +kernel
theorem dX4_isSweptByMove_32 : decode cX4_isSweptByMove 32 = .ok (.iload_n 3, 1) := by decide +kernel
theorem dX4_isSweptByMove_33 : decode cX4_isSweptByMove 33 = .ok (.iaload, 1) := by decide +kernel
theorem dX4_isSweptByMove_34 : decode cX4_isSweptByMove 34 = .ok (.invokevirtual 214, 3) := by decide +kernel
theorem dX4_isSweptByMove_37 : decode cX4_isSweptByMove 37 = .ok (.ifCond .eq 7, 3) := by decide +kernel
theorem dX4_isSweptByMove_40 : decode cX4_isSweptByMove 40 = .ok (.aload_n 1, 1) := by decide +kernel
theorem dX4_isSweptByMove_41 : decode cX4_isSweptByMove 41 = .ok (.goto 4, 3) := by decide +kernel
theorem dX4_isSweptByMove_44 : decode cX4_isSweptByMove 44 = .ok (.aconst_null, 1) := by decide +kernel
theorem dX4_isSweptByMove_45 : decode cX4_isSweptByMove 45 = .ok (.astore 5, 2) := by decide +kernel
theorem dX4_isSweptByMove_47 : decode cX4_isSweptByMove 47 = .ok (.aload_n 0, 1) := by decide +kernel
theorem dX4_isSweptByMove_48 : decode cX4_isSweptByMove 48 = .ok (.getfield 14, 3) := by decide +kernel
theorem dX4_isSweptByMove_51 : decode cX4_isSweptByMove 51 = .ok (.iload 4, 2) := by decide +kernel
theorem dX4_isSweptByMove_53 : decode cX4_isSweptByMove 53 = .ok (.aload_n 1, 1) := by decide +kernel
theorem dX4_isSweptByMove_54 : decode cX4_isSweptByMove 54 = .ok (.getfield 79, 3) := by decide +kernel
theorem dX4_isSweptByMove_57 : decode cX4_isSweptByMove 57 = .ok (.iload 4, 2) := by decide +kernel
theorem dX4_isSweptByMove_59 : decode cX4_isSweptByMove 59 = .ok (.iaload, 1) := by decide +kernel
theorem dX4_isSweptByMove_60 : decode cX4_isSweptByMove 60 = .ok (.aload_n 1, 1) := by decide +kernel
theorem dX4_isSweptByMove_61 : decode cX4_isSweptByMove 61 = .ok (.getfield 82, 3) := by decide +kernel
theorem dX4_isSweptByMove_64 : decode cX4_isSweptByMove 64 = .ok (.iload 4, 2) := by decide +kernel
theorem dX4_isSweptByMove_66 : decode cX4_isSweptByMove 66 = .ok (.iaload, 1) := by decide +kernel
theorem dX4_isSweptByMove_67 : decode cX4_isSweptByMove 67 = .ok (.invokevirtual 214, 3) := by decide +kernel
theorem dX4_isSweptByMove_70 : decode cX4_isSweptByMove 70 = .ok (.ifCond .eq 7, 3) := by decide +kernel
theorem dX4_isSweptByMove_73 : decode cX4_isSweptByMove 73 = .ok (.aload_n 1, 1) := by decide +kernel
theorem dX4_isSweptByMove_74 : decode cX4_isSweptByMove 74 = .ok (.goto 4, 3) := by decide +kernel
theorem dX4_isSweptByMove_77 : decode cX4_isSweptByMove 77 = .ok (.aconst_null, 1) := by decide +kernel
theorem dX4_isSweptByMove_78 : decode cX4_isSweptByMove 78 = .ok (.astore 6, 2) := by decide +kernel
theorem dX4_isSweptByMove_80 : decode cX4_isSweptByMove 80 = .ok (.aload 5, 2) := by decide +kernel
theorem dX4_isSweptByMove_82 : decode cX4_isSweptByMove 82 = .ok (.ifnull 11, 3) := by decide +kernel
theorem dX4_isSweptByMove_85 : decode cX4_isSweptByMove 85 = .ok (.aload 6, 2) := by decide +kernel
theorem dX4_isSweptByMove_87 : decode cX4_isSweptByMove 87 = .ok (.ifnull 6, 3) := by decide +kernel
theorem dX4_isSweptByMove_90 : decode cX4_isSweptByMove 90 = .ok (.goto 69, 3) := by decide +kernel
theorem dX4_isSweptByMove_93 : decode cX4_isSweptByMove 93 = .ok (.aload_n 0, 1) := by decide +kernel
theorem dX4_isSweptByMove_94 : decode cX4_isSweptByMove 94 = .ok (.aload_n 1, 1) := by decide +kernel
theorem dX4_isSweptByMove_95 : decode cX4_isSweptByMove 95 = .ok (.iload_n 3, 1) := by decide +kernel
theorem dX4_isSweptByMove_96 : decode cX4_isSweptByMove 96 = .ok (.aload_n 1, 1) := by decide +kernel
theorem dX4_isSweptByMove_97 : decode cX4_isSweptByMove 97 = .ok (.iload 4, 2) := by decide +kernel
theorem dX4_isSweptByMove_99 : decode cX4_isSweptByMove 99 = .ok (.aload_n 0, 1) := by decide +kernel
theorem dX4_isSweptByMove_100 : decode cX4_isSweptByMove 100 = .ok (.getfield 14, 3) := by decide +kernel
theorem dX4_isSweptByMove_103 : decode cX4_isSweptByMove 103 = .ok (.iload 4, 2) := by decide +kernel
theorem dX4_isSweptByMove_105 : decode cX4_isSweptByMove 105 = .ok (.invokevirtual 203, 3) := by decide +kernel
theorem dX4_isSweptByMove_108 : decode cX4_isSweptByMove 108 = .ok (.aload_n 0, 1) := by decide +kernel
theorem dX4_isSweptByMove_109 : decode cX4_isSweptByMove 109 = .ok (.aload_n 2, 1) := by decide +kernel
theorem dX4_isSweptByMove_110 : decode cX4_isSweptByMove 110 = .ok (.aload 5, 2) := by decide +kernel
theorem dX4_isSweptByMove_112 : decode cX4_isSweptByMove 112 = .ok (.iload_n 3, 1) := by decide +kernel
theorem dX4_isSweptByMove_113 : decode cX4_isSweptByMove 113 = .ok (.aload 6, 2) := by decide +kernel
theorem dX4_isSweptByMove_115 : decode cX4_isSweptByMove 115 = .ok (.iload 4, 2) := by decide +kernel
theorem dX4_isSweptByMove_117 : decode cX4_isSweptByMove 117 = .ok (.invokevirtual 207, 3) := by decide +kernel
theorem dX4_isSweptByMove_120 : decode cX4_isSweptByMove 120 = .ok (.ifCond .eq 5, 3) := by decide +kernel
theorem dX4_isSweptByMove_123 : decode cX4_isSweptByMove 123 = .ok (.iconst 1, 1) := by decide +kernel
theorem dX4_isSweptByMove_124 : decode cX4_isSweptByMove 124 = .ok (.ireturn, 1) := by decide +kernel
theorem dX4_isSweptByMove_125 : decode cX4_isSweptByMove 125 = .ok (.aload_n 0, 1) := by decide +kernel
theorem dX4_isSweptByMove_126 : decode cX4_isSweptByMove 126 = .ok (.aload_n 1, 1) := by decide +kernel
theorem dX4_isSweptByMove_127 : decode cX4_isSweptByMove 127 = .ok (.iload_n 3, 1) := by decide +kernel
theorem dX4_isSweptByMove_128 : decode cX4_isSweptByMove 128 = .ok (.aload_n 0, 1) := by decide +kernel
theorem dX4_isSweptByMove_129 : decode cX4_isSweptByMove 129 = .ok (.getfield 14, 3) := by decide +kernel
theorem dX4_isSweptByMove_132 : decode cX4_isSweptByMove 132 = .ok (.iload_n 3, 1) := by decide +kernel
theorem dX4_isSweptByMove_133 : decode cX4_isSweptByMove 133 = .ok (.aload_n 0, 1) := by decide +kernel
theorem dX4_isSweptByMove_134 : decode cX4_isSweptByMove 134 = .ok (.getfield 14, 3) := by decide +kernel
theorem dX4_isSweptByMove_137 : decode cX4_isSweptByMove 137 = .ok (.iload 4, 2) := by decide +kernel
theorem dX4_isSweptByMove_139 : decode cX4_isSweptByMove 139 = .ok (.invokevirtual 203, 3) := by decide +kernel
theorem dX4_isSweptByMove_142 : decode cX4_isSweptByMove 142 = .ok (.aload_n 0, 1) := by decide +kernel
theorem dX4_isSweptByMove_143 : decode cX4_isSweptByMove 143 = .ok (.aload_n 2, 1) := by decide +kernel
theorem dX4_isSweptByMove_144 : decode cX4_isSweptByMove 144 = .ok (.aload 5, 2) := by decide +kernel
theorem dX4_isSweptByMove_146 : decode cX4_isSweptByMove 146 = .ok (.iload_n 3, 1) := by decide +kernel
theorem dX4_isSweptByMove_147 : decode cX4_isSweptByMove 147 = .ok (.aload 6, 2) := by decide +kernel
theorem dX4_isSweptByMove_149 : decode cX4_isSweptByMove 149 = .ok (.iload 4, 2) := by decide +kernel
theorem dX4_isSweptByMove_151 : decode cX4_isSweptByMove 151 = .ok (.invokevirtual 207, 3) := by decide +kernel
theorem dX4_isSweptByMove_154 : decode cX4_isSweptByMove 154 = .ok (.ifCond .eq 5, 3) := by decide +kernel
theorem dX4_isSweptByMove_157 : decode cX4_isSweptByMove 157 = .ok (.iconst 1, 1) := by decide +kernel
theorem dX4_isSweptByMove_158 : decode cX4_isSweptByMove 158 = .ok (.ireturn, 1) := by decide +kernel
theorem dX4_isSweptByMove_159 : decode cX4_isSweptByMove 159 = .ok (.iinc 3 1, 3) := by decide +kernel
theorem dX4_isSweptByMove_162 : decode cX4_isSweptByMove 162 = .ok (.goto (-160), 3) := by decide +kernel
theorem dX4_isSweptByMove_165 : decode cX4_isSweptByMove 165 = .ok (.iconst 0, 1) := by decide +kernel
theorem dX4_isSweptByMove_166 : decode cX4_isSweptByMove 166 = .ok (.ireturn, 1) := by decide +kernel
theorem dX4_setTriangle_0 : decode cX4_setTriangle 0 = .ok (.aload_n 0, 1) := by decide +kernel
theorem dX4_setTriangle_1 : decode cX4_setTriangle 1 = .ok (.getfield 20, 3) := by decide +kernel
theorem dX4_setTriangle_4 : decode cX4_setTriangle 4 = .ok (.iconst 1, 1) := by decide +kernel
theorem dX4_setTriangle_5 : decode cX4_setTriangle 5 = .ok (.invokevirtual 177, 3) := by decide +kernel
theorem dX4_setTriangle_8 : decode cX4_setTriangle 8 = .ok (.aload_n 0, 1) := by decide +kernel
theorem dX4_setTriangle_9 : decode cX4_setTriangle 9 = .ok (.getfield 20, 3) := by decide +kernel
theorem dX4_setTriangle_12 : decode cX4_setTriangle 12 = .ok (.aload_n 1, 1) := by decide +kernel
theorem dX4_setTriangle_13 : decode cX4_setTriangle 13 = .ok (.getfield 79, 3) := by decide +kernel
theorem dX4_setTriangle_16 : decode cX4_setTriangle 16 = .ok (.iload_n 2, 1) := by decide +kernel
theorem dX4_setTriangle_17 : decode cX4_setTriangle 17 = .ok (.iaload, 1) := by decide +kernel
theorem dX4_setTriangle_18 : decode cX4_setTriangle 18 = .ok (.aload_n 1, 1) := by decide +kernel
theorem dX4_setTriangle_19 : decode cX4_setTriangle 19 = .ok (.getfield 82, 3) := by decide +kernel
theorem dX4_setTriangle_22 : decode cX4_setTriangle 22 = .ok (.iload_n 2, 1) := by decide +kernel
theorem dX4_setTriangle_23 : decode cX4_setTriangle 23 = .ok (.iaload, 1) := by decide +kernel
theorem dX4_setTriangle_24 : decode cX4_setTriangle 24 = .ok (.invokevirtual 181, 3) := by decide +kernel
theorem dX4_setTriangle_27 : decode cX4_setTriangle 27 = .ok (.aload_n 0, 1) := by decide +kernel
theorem dX4_setTriangle_28 : decode cX4_setTriangle 28 = .ok (.getfield 20, 3) := by decide +kernel
theorem dX4_setTriangle_31 : decode cX4_setTriangle 31 = .ok (.aload_n 3, 1) := by decide +kernel
theorem dX4_setTriangle_32 : decode cX4_setTriangle 32 = .ok (.getfield 79, 3) := by decide +kernel
theorem dX4_setTriangle_35 : decode cX4_setTriangle 35 = .ok (.iload 4, 2) := by decide +kernel
theorem dX4_setTriangle_37 : decode cX4_setTriangle 37 = .ok (.iaload, 1) := by decide +kernel
theorem dX4_setTriangle_38 : decode cX4_setTriangle 38 = .ok (.aload_n 3, 1) := by decide +kernel
theorem dX4_setTriangle_39 : decode cX4_setTriangle 39 = .ok (.getfield 82, 3) := by decide +kernel
theorem dX4_setTriangle_42 : decode cX4_setTriangle 42 = .ok (.iload 4, 2) := by decide +kernel
theorem dX4_setTriangle_44 : decode cX4_setTriangle 44 = .ok (.iaload, 1) := by decide +kernel
theorem dX4_setTriangle_45 : decode cX4_setTriangle 45 = .ok (.invokevirtual 181, 3) := by decide +kernel
theorem dX4_setTriangle_48 : decode cX4_setTriangle 48 = .ok (.aload_n 0, 1) := by decide +kernel
theorem dX4_setTriangle_49 : decode cX4_setTriangle 49 = .ok (.getfield 20, 3) := by decide +kernel
theorem dX4_setTriangle_52 : decode cX4_setTriangle 52 = .ok (.aload 5, 2) := by decide +kernel
theorem dX4_setTriangle_54 : decode cX4_setTriangle 54 = .ok (.getfield 79, 3) := by decide +kernel
theorem dX4_setTriangle_57 : decode cX4_setTriangle 57 = .ok (.iload 6, 2) := by decide +kernel
theorem dX4_setTriangle_59 : decode cX4_setTriangle 59 = .ok (.iaload, 1) := by decide +kernel
theorem dX4_setTriangle_60 : decode cX4_setTriangle 60 = .ok (.aload 5, 2) := by decide +kernel
theorem dX4_setTriangle_62 : decode cX4_setTriangle 62 = .ok (.getfield 82, 3) := by decide +kernel
theorem dX4_setTriangle_65 : decode cX4_setTriangle 65 = .ok (.iload 6, 2) := by decide +kernel
theorem dX4_setTriangle_67 : decode cX4_setTriangle 67 = .ok (.iaload, 1) := by decide +kernel
theorem dX4_setTriangle_68 : decode cX4_setTriangle 68 = .ok (.invokevirtual 181, 3) := by decide +kernel
theorem dX4_setTriangle_71 : decode cX4_setTriangle 71 = .ok (.return_, 1) := by decide +kernel
theorem dX4_holdsCorner_0 : decode cX4_holdsCorner 0 = .ok (.iconst 0, 1) := by decide +kernel
theorem dX4_holdsCorner_1 : decode cX4_holdsCorner 1 = .ok (.istore 6, 2) := by decide +kernel
theorem dX4_holdsCorner_3 : decode cX4_holdsCorner 3 = .ok (.iload 6, 2) := by decide +kernel
theorem dX4_holdsCorner_5 : decode cX4_holdsCorner 5 = .ok (.aload_n 1, 1) := by decide +kernel
theorem dX4_holdsCorner_6 : decode cX4_holdsCorner 6 = .ok (.getfield 55, 3) := by decide +kernel
theorem dX4_holdsCorner_9 : decode cX4_holdsCorner 9 = .ok (.if_icmp .ge 90, 3) := by decide +kernel
theorem dX4_holdsCorner_12 : decode cX4_holdsCorner 12 = .ok (.aload_n 1, 1) := by decide +kernel
theorem dX4_holdsCorner_13 : decode cX4_holdsCorner 13 = .ok (.getfield 79, 3) := by decide +kernel
theorem dX4_holdsCorner_16 : decode cX4_holdsCorner 16 = .ok (.iload 6, 2) := by decide +kernel
theorem dX4_holdsCorner_18 : decode cX4_holdsCorner 18 = .ok (.iaload, 1) := by decide +kernel
theorem dX4_holdsCorner_19 : decode cX4_holdsCorner 19 = .ok (.istore 7, 2) := by decide +kernel
theorem dX4_holdsCorner_21 : decode cX4_holdsCorner 21 = .ok (.aload_n 1, 1) := by decide +kernel
theorem dX4_holdsCorner_22 : decode cX4_holdsCorner 22 = .ok (.getfield 82, 3) := by decide +kernel
theorem dX4_holdsCorner_25 : decode cX4_holdsCorner 25 = .ok (.iload 6, 2) := by decide +kernel
theorem dX4_holdsCorner_27 : decode cX4_holdsCorner 27 = .ok (.iaload, 1) := by decide +kernel
theorem dX4_holdsCorner_28 : decode cX4_holdsCorner 28 = .ok (.istore 8, 2) := by decide +kernel
theorem dX4_holdsCorner_30 : decode cX4_holdsCorner 30 = .ok (.aload_n 2, 1) := by decide +kernel
theorem dX4_holdsCorner_31 : decode cX4_holdsCorner 31 = .ok (.ifnull 15, 3) := by decide +kernel
theorem dX4_holdsCorner_34 : decode cX4_holdsCorner 34 = .ok (.aload_n 2, 1) := by decide +kernel
theorem dX4_holdsCorner_35 : decode cX4_holdsCorner 35 = .ok (.iload_n 3, 1) := by decide +kernel
theorem dX4_holdsCorner_36 : decode cX4_holdsCorner 36 = .ok (.iload 7, 2) := by decide +kernel
theorem dX4_holdsCorner_38 : decode cX4_holdsCorner 38 = .ok (.iload 8, 2) := by decide +kernel
theorem dX4_holdsCorner_40 : decode cX4_holdsCorner 40 = .ok (.invokevirtual 214, 3) := by decide +kernel
theorem dX4_holdsCorner_43 : decode cX4_holdsCorner 43 = .ok (.ifCond .ne 22, 3) := by decide +kernel
theorem dX4_holdsCorner_46 : decode cX4_holdsCorner 46 = .ok (.aload 4, 2) := by decide +kernel
theorem dX4_holdsCorner_48 : decode cX4_holdsCorner 48 = .ok (.ifnull 21, 3) := by decide +kernel
theorem dX4_holdsCorner_51 : decode cX4_holdsCorner 51 = .ok (.aload 4, 2) := by decide +kernel
theorem dX4_holdsCorner_53 : decode cX4_holdsCorner 53 = .ok (.iload 5, 2) := by decide +kernel
theorem dX4_holdsCorner_55 : decode cX4_holdsCorner 55 = .ok (.iload 7, 2) := by decide +kernel
theorem dX4_holdsCorner_57 : decode cX4_holdsCorner 57 = .ok (.iload 8, 2) := by decide +kernel
theorem dX4_holdsCorner_59 : decode cX4_holdsCorner 59 = .ok (.invokevirtual 214, 3) := by decide +kernel
theorem dX4_holdsCorner_62 : decode cX4_holdsCorner 62 = .ok (.ifCond .eq 7, 3) := by decide +kernel
theorem dX4_holdsCorner_65 : decode cX4_holdsCorner 65 = .ok (.iconst 1, 1) := by decide +kernel
theorem dX4_holdsCorner_66 : decode cX4_holdsCorner 66 = .ok (.goto 4, 3) := by decide +kernel
theorem dX4_holdsCorner_69 : decode cX4_holdsCorner 69 = .ok (.iconst 0, 1) := by decide +kernel
theorem dX4_holdsCorner_70 : decode cX4_holdsCorner 70 = .ok (.istore 9, 2) := by decide +kernel
theorem dX4_holdsCorner_72 : decode cX4_holdsCorner 72 = .ok (.iload 9, 2) := by decide +kernel
theorem dX4_holdsCorner_74 : decode cX4_holdsCorner 74 = .ok (.ifCond .ne 19, 3) := by decide +kernel
theorem dX4_holdsCorner_77 : decode cX4_holdsCorner 77 = .ok (.aload_n 0, 1) := by decide +kernel
theorem dX4_holdsCorner_78 : decode cX4_holdsCorner 78 = .ok (.getfield 20, 3) := by decide +kernel
theorem dX4_holdsCorner_81 : decode cX4_holdsCorner 81 = .ok (.iload 7, 2) := by decide +kernel
theorem dX4_holdsCorner_83 : decode cX4_holdsCorner 83 = .ok (.iload 8, 2) := by decide +kernel
theorem dX4_holdsCorner_85 : decode cX4_holdsCorner 85 = .ok (.invokevirtual 174, 3) := by decide +kernel
theorem dX4_holdsCorner_88 : decode cX4_holdsCorner 88 = .ok (.ifCond .eq 5, 3) := by decide +kernel
theorem dX4_holdsCorner_91 : decode cX4_holdsCorner 91 = .ok (.iconst 1, 1) := by decide +kernel
theorem dX4_holdsCorner_92 : decode cX4_holdsCorner 92 = .ok (.ireturn, 1) := by decide +kernel
theorem dX4_holdsCorner_93 : decode cX4_holdsCorner 93 = .ok (.iinc 6 1, 3) := by decide +kernel
theorem dX4_holdsCorner_96 : decode cX4_holdsCorner 96 = .ok (.goto (-93), 3) := by decide +kernel
theorem dX4_holdsCorner_99 : decode cX4_holdsCorner 99 = .ok (.iconst 0, 1) := by decide +kernel
theorem dX4_holdsCorner_100 : decode cX4_holdsCorner 100 = .ok (.ireturn, 1) := by decide +kernel
theorem dX4_isFreeFor_0 : decode cX4_isFreeFor 0 = .ok (.iconst 0, 1) := by decide +kernel
theorem dX4_isFreeFor_1 : decode cX4_isFreeFor 1 = .ok (.istore 4, 2) := by decide +kernel
theorem dX4_isFreeFor_3 : decode cX4_isFreeFor 3 = .ok (.iload 4, 2) := by decide +kernel
theorem dX4_isFreeFor_5 : decode cX4_isFreeFor 5 = .ok (.aload_n 1, 1) := by decide +kernel
theorem dX4_isFreeFor_6 : decode cX4_isFreeFor 6 = .ok (.getfield 93, 3) := by decide +kernel
theorem dX4_isFreeFor_9 : decode cX4_isFreeFor 9 = .ok (.if_icmp .ge 71, 3) := by decide +kernel
theorem dX4_isFreeFor_12 : decode cX4_isFreeFor 12 = .ok (.aload_n 1, 1) := by decide +kernel
theorem dX4_isFreeFor_13 : decode cX4_isFreeFor 13 = .ok (.iload 4, 2) := by decide +kernel
theorem dX4_isFreeFor_15 : decode cX4_isFreeFor 15 = .ok (.invokevirtual 98, 3) := by decide +kernel
theorem dX4_isFreeFor_18 : decode cX4_isFreeFor 18 = .ok (.astore 5, 2) := by decide +kernel
theorem dX4_isFreeFor_20 : decode cX4_isFreeFor 20 = .ok (.aload 5, 2) := by decide +kernel
theorem dX4_isFreeFor_22 : decode cX4_isFreeFor 22 = .ok (.ifnull 52, 3) := by decide +kernel
theorem dX4_isFreeFor_25 : decode cX4_isFreeFor 25 = .ok (.aload_n 1, 1) := by decide +kernel
theorem dX4_isFreeFor_26 : decode cX4_isFreeFor 26 = .ok (.iload 4, 2) := by decide +kernel
theorem dX4_isFreeFor_28 : decode cX4_isFreeFor 28 = .ok (.invokevirtual 102, 3) := by decide +kernel
theorem dX4_isFreeFor_31 : decode cX4_isFreeFor 31 = .ok (.aload_n 2, 1) := by decide +kernel
theorem dX4_isFreeFor_32 : decode cX4_isFreeFor 32 = .ok (.if_acmp .eq 42, 3) := by decide +kernel
theorem dX4_isFreeFor_35 : decode cX4_isFreeFor 35 = .ok (.aload_n 1, 1) := by decide +kernel
theorem dX4_isFreeFor_36 : decode cX4_isFreeFor 36 = .ok (.iload 4, 2) := by decide +kernel
theorem dX4_isFreeFor_38 : decode cX4_isFreeFor 38 = .ok (.invokevirtual 102, 3) := by decide +kernel
theorem dX4_isFreeFor_41 : decode cX4_isFreeFor 41 = .ok (.aload_n 3, 1) := by decide +kernel
theorem dX4_isFreeFor_42 : decode cX4_isFreeFor 42 = .ok (.if_acmp .ne 6, 3) := by decide +kernel
theorem dX4_isFreeFor_45 : decode cX4_isFreeFor 45 = .ok (.goto 29, 3) := by decide +kernel
theorem dX4_isFreeFor_48 : decode cX4_isFreeFor 48 = .ok (.aload_n 0, 1) := by decide +kernel
theorem dX4_isFreeFor_49 : decode cX4_isFreeFor 49 = .ok (.getfield 14, 3) := by decide +kernel
theorem dX4_isFreeFor_52 : decode cX4_isFreeFor 52 = .ok (.aload 5, 2) := by decide +kernel
theorem dX4_isFreeFor_54 : decode cX4_isFreeFor 54 = .ok (.invokevirtual 154, 3) := by decide +kernel
theorem dX4_isFreeFor_57 : decode cX4_isFreeFor 57 = .ok (.ifCond .ne 15, 3) := by decide +kernel
theorem dX4_isFreeFor_60 : decode cX4_isFreeFor 60 = .ok (.aload_n 0, 1) := by decide +kernel
theorem dX4_isFreeFor_61 : decode cX4_isFreeFor 61 = .ok (.getfield 14, 3) := by decide +kernel
theorem dX4_isFreeFor_64 : decode cX4_isFreeFor 64 = .ok (.aload 5, 2) := by decide +kernel
theorem dX4_isFreeFor_66 : decode cX4_isFreeFor 66 = .ok (.invokestatic 162, 3) := by decide +kernel
theorem dX4_isFreeFor_69 : decode cX4_isFreeFor 69 = .ok (.ifCond .eq 5, 3) := by decide +kernel
theorem dX4_isFreeFor_72 : decode cX4_isFreeFor 72 = .ok (.iconst 0, 1) := by decide +kernel
theorem dX4_isFreeFor_73 : decode cX4_isFreeFor 73 = .ok (.ireturn, 1) := by decide +kernel
theorem dX4_isFreeFor_74 : decode cX4_isFreeFor 74 = .ok (.iinc 4 1, 3) := by decide +kernel
theorem dX4_isFreeFor_77 : decode cX4_isFreeFor 77 = .ok (.goto (-74), 3) := by decide +kernel
theorem dX4_isFreeFor_80 : decode cX4_isFreeFor 80 = .ok (.iconst 1, 1) := by decide +kernel
theorem dX4_isFreeFor_81 : decode cX4_isFreeFor 81 = .ok (.ireturn, 1) := by decide +kernel
theorem dX5_init_0 : decode cX5_init 0 = .ok (.aload_n 0, 1) := by decide +kernel
theorem dX5_init_1 : decode cX5_init 1 = .ok (.invokespecial 3, 3) := by decide +kernel
theorem dX5_init_4 : decode cX5_init 4 = .ok (.aload_n 0, 1) := by decide +kernel
theorem dX5_init_5 : decode cX5_init 5 = .ok (.iconst 0, 1) := by decide +kernel
theorem dX5_init_6 : decode cX5_init 6 = .ok (.putfield 9, 3) := by decide +kernel
theorem dX5_init_9 : decode cX5_init 9 = .ok (.aload_n 0, 1) := by decide +kernel
theorem dX5_init_10 : decode cX5_init 10 = .ok (.aconst_null, 1) := by decide +kernel
theorem dX5_init_11 : decode cX5_init 11 = .ok (.putfield 15, 3) := by decide +kernel
theorem dX5_init_14 : decode cX5_init 14 = .ok (.aload_n 0, 1) := by decide +kernel
theorem dX5_init_15 : decode cX5_init 15 = .ok (.iconst 0, 1) := by decide +kernel
theorem dX5_init_16 : decode cX5_init 16 = .ok (.putfield 19, 3) := by decide +kernel
theorem dX5_init_19 : decode cX5_init 19 = .ok (.aload_n 0, 1) := by decide +kernel
theorem dX5_init_20 : decode cX5_init 20 = .ok (.iconst (-1), 1) := by decide +kernel
theorem dX5_init_21 : decode cX5_init 21 = .ok (.putfield 22, 3) := by decide +kernel
theorem dX5_init_24 : decode cX5_init 24 = .ok (.aload_n 0, 1) := by decide +kernel
theorem dX5_init_25 : decode cX5_init 25 = .ok (.iconst 0, 1) := by decide +kernel
theorem dX5_init_26 : decode cX5_init 26 = .ok (.putfield 25, 3) := by decide +kernel
theorem dX5_init_29 : decode cX5_init 29 = .ok (.aload_n 0, 1) := by decide +kernel
end
section
theorem dX5_init_30 : decode cX5_init 30 = .ok (.iload_n 1, 1) := by decide +kernel
theorem dX5_init_31 : decode cX5_init 31 = .ok (.putfield 28, 3) := by decide +kernel
theorem dX5_init_34 : decode cX5_init 34 = .ok (.return_, 1) := by decide +kernel
theorem dX5_copy_0 : decode cX5_copy 0 = .ok (.new 10, 3) := by decide +kernel
theorem dX5_copy_3 : decode cX5_copy 3 = .ok (.dup, 1) := by decide +kernel
theorem dX5_copy_4 : decode cX5_copy 4 = .ok (.aload_n 0, 1) := by decide +kernel
theorem dX5_copy_5 : decode cX5_copy 5 = .ok (.getfield 28, 3) := by decide +kernel
theorem dX5_copy_8 : decode cX5_copy 8 = .ok (.invokespecial 31, 3) := by decide +kernel
theorem dX5_copy_11 : decode cX5_copy 11 = .ok (.astore_n 1, 1) := by decide +kernel
theorem dX5_copy_12 : decode cX5_copy 12 = .ok (.aload_n 1, 1) := by decide +kernel
theorem dX5_copy_13 : decode cX5_copy 13 = .ok (.aload_n 0, 1) := by decide +kernel
theorem dX5_copy_14 : decode cX5_copy 14 = .ok (.getfield 9, 3) := by decide +kernel
theorem dX5_copy_17 : decode cX5_copy 17 = .ok (.putfield 9, 3) := by decide +kernel
theorem dX5_copy_20 : decode cX5_copy 20 = .ok (.aload_n 1, 1) := by decide +kernel
theorem dX5_copy_21 : decode cX5_copy 21 = .ok (.aload_n 0, 1) := by decide +kernel
theorem dX5_copy_22 : decode cX5_copy 22 = .ok (.getfield 15, 3) := by decide +kernel
theorem dX5_copy_25 : decode cX5_copy 25 = .ok (.putfield 15, 3) := by decide +kernel
theorem dX5_copy_28 : decode cX5_copy 28 = .ok (.aload_n 1, 1) := by decide +kernel
theorem dX5_copy_29 : decode cX5_copy 29 = .ok (.aload_n 0, 1) := by decide +kernel
theorem dX5_copy_30 : decode cX5_copy 30 = .ok (.getfield 19, 3) := by decide +kernel
theorem dX5_copy_33 : decode cX5_copy 33 = .ok (.putfield 19, 3) := by decide +kernel
theorem dX5_copy_36 : decode cX5_copy 36 = .ok (.aload_n 1, 1) := by decide +kernel
theorem dX5_copy_37 : decode cX5_copy 37 = .ok (.aload_n 0, 1) := by decide +kernel
theorem dX5_copy_38 : decode cX5_copy 38 = .ok (.getfield 22, 3) := by decide +kernel
theorem dX5_copy_41 : decode cX5_copy 41 = .ok (.putfield 22, 3) := by decide +kernel
theorem dX5_copy_44 : decode cX5_copy 44 = .ok (.aload_n 1, 1) := by decide +kernel
theorem dX5_copy_45 : decode cX5_copy 45 = .ok (.aload_n 0, 1) := by decide +kernel
theorem dX5_copy_46 : decode cX5_copy 46 = .ok (.getfield 25, 3) := by decide +kernel
theorem dX5_copy_49 : decode cX5_copy 49 = .ok (.putfield 25, 3) := by decide +kernel
theorem dX5_copy_52 : decode cX5_copy 52 = .ok (.aload_n 1, 1) := by decide +kernel
theorem dX5_copy_53 : decode cX5_copy 53 = .ok (.areturn, 1) := by decide +kernel
theorem dX6_init_0 : decode cX6_init 0 = .ok (.aload_n 0, 1) := by decide +kernel
theorem dX6_init_1 : decode cX6_init 1 = .ok (.invokespecial 3, 3) := by decide +kernel
theorem dX6_init_4 : decode cX6_init 4 = .ok (.aload_n 0, 1) := by decide +kernel
theorem dX6_init_5 : decode cX6_init 5 = .ok (.sipush 200, 3) := by decide +kernel
theorem dX6_init_8 : decode cX6_init 8 = .ok (.anewarray 9, 3) := by decide +kernel
theorem dX6_init_11 : decode cX6_init 11 = .ok (.putfield 11, 3) := by decide +kernel
theorem dX6_init_14 : decode cX6_init 14 = .ok (.aload_n 0, 1) := by decide +kernel
theorem dX6_init_15 : decode cX6_init 15 = .ok (.sipush 200, 3) := by decide +kernel
theorem dX6_init_18 : decode cX6_init 18 = .ok (.newarray .int, 2) := by decide +kernel
theorem dX6_init_20 : decode cX6_init 20 = .ok (.putfield 17, 3) := by decide +kernel
theorem dX6_init_23 : decode cX6_init 23 = .ok (.aload_n 0, 1) := by decide +kernel
theorem dX6_init_24 : decode cX6_init 24 = .ok (.sipush 400, 3) := by decide +kernel
theorem dX6_init_27 : decode cX6_init 27 = .ok (.newarray .int, 2) := by decide +kernel
theorem dX6_init_29 : decode cX6_init 29 = .ok (.putfield 21, 3) := by decide +kernel
theorem dX6_init_32 : decode cX6_init 32 = .ok (.aload_n 0, 1) := by decide +kernel
theorem dX6_init_33 : decode cX6_init 33 = .ok (.sipush 400, 3) := by decide +kernel
theorem dX6_init_36 : decode cX6_init 36 = .ok (.newarray .int, 2) := by decide +kernel
theorem dX6_init_38 : decode cX6_init 38 = .ok (.putfield 24, 3) := by decide +kernel
theorem dX6_init_41 : decode cX6_init 41 = .ok (.aload_n 0, 1) := by decide +kernel
theorem dX6_init_42 : decode cX6_init 42 = .ok (.sipush 400, 3) := by decide +kernel
theorem dX6_init_45 : decode cX6_init 45 = .ok (.newarray .int, 2) := by decide +kernel
theorem dX6_init_47 : decode cX6_init 47 = .ok (.putfield 27, 3) := by decide +kernel
theorem dX6_init_50 : decode cX6_init 50 = .ok (.aload_n 0, 1) := by decide +kernel
theorem dX6_init_51 : decode cX6_init 51 = .ok (.iconst 0, 1) := by decide +kernel
theorem dX6_init_52 : decode cX6_init 52 = .ok (.putfield 30, 3) := by decide +kernel
theorem dX6_init_55 : decode cX6_init 55 = .ok (.return_, 1) := by decide +kernel
theorem dX6_gather_0 : decode cX6_gather 0 = .ok (.aload_n 0, 1) := by decide +kernel
theorem dX6_gather_1 : decode cX6_gather 1 = .ok (.iconst 0, 1) := by decide +kernel
theorem dX6_gather_2 : decode cX6_gather 2 = .ok (.putfield 30, 3) := by decide +kernel
theorem dX6_gather_5 : decode cX6_gather 5 = .ok (.iconst 0, 1) := by decide +kernel
theorem dX6_gather_6 : decode cX6_gather 6 = .ok (.istore_n 2, 1) := by decide +kernel
theorem dX6_gather_7 : decode cX6_gather 7 = .ok (.iload_n 2, 1) := by decide +kernel
theorem dX6_gather_8 : decode cX6_gather 8 = .ok (.aload_n 1, 1) := by decide +kernel
theorem dX6_gather_9 : decode cX6_gather 9 = .ok (.getfield 34, 3) := by decide +kernel
theorem dX6_gather_12 : decode cX6_gather 12 = .ok (.if_icmp .ge 59, 3) := by decide +kernel
theorem dX6_gather_15 : decode cX6_gather 15 = .ok (.aload_n 1, 1) := by decide +kernel
theorem dX6_gather_16 : decode cX6_gather 16 = .ok (.iload_n 2, 1) := by decide +kernel
theorem dX6_gather_17 : decode cX6_gather 17 = .ok (.invokevirtual 39, 3) := by decide +kernel
theorem dX6_gather_20 : decode cX6_gather 20 = .ok (.astore_n 3, 1) := by decide +kernel
theorem dX6_gather_21 : decode cX6_gather 21 = .ok (.aload_n 1, 1) := by decide +kernel
theorem dX6_gather_22 : decode cX6_gather 22 = .ok (.iload_n 2, 1) := by decide +kernel
theorem dX6_gather_23 : decode cX6_gather 23 = .ok (.invokevirtual 43, 3) := by decide +kernel
theorem dX6_gather_26 : decode cX6_gather 26 = .ok (.astore 4, 2) := by decide +kernel
theorem dX6_gather_28 : decode cX6_gather 28 = .ok (.aload_n 3, 1) := by decide +kernel
theorem dX6_gather_29 : decode cX6_gather 29 = .ok (.ifnull 36, 3) := by decide +kernel
theorem dX6_gather_32 : decode cX6_gather 32 = .ok (.aload 4, 2) := by decide +kernel
theorem dX6_gather_34 : decode cX6_gather 34 = .ok (.ifnull 31, 3) := by decide +kernel
theorem dX6_gather_37 : decode cX6_gather 37 = .ok (.aload_n 3, 1) := by decide +kernel
theorem dX6_gather_38 : decode cX6_gather 38 = .ok (.getfield 47, 3) := by decide +kernel
theorem dX6_gather_41 : decode cX6_gather 41 = .ok (.getfield 51, 3) := by decide +kernel
theorem dX6_gather_44 : decode cX6_gather 44 = .ok (.iconst 3, 1) := by decide +kernel
theorem dX6_gather_45 : decode cX6_gather 45 = .ok (.if_icmp .ne 20, 3) := by decide +kernel
theorem dX6_gather_48 : decode cX6_gather 48 = .ok (.aload_n 0, 1) := by decide +kernel
theorem dX6_gather_49 : decode cX6_gather 49 = .ok (.aload_n 3, 1) := by decide +kernel
theorem dX6_gather_50 : decode cX6_gather 50 = .ok (.aload_n 3, 1) := by decide +kernel
theorem dX6_gather_51 : decode cX6_gather 51 = .ok (.getfield 56, 3) := by decide +kernel
theorem dX6_gather_54 : decode cX6_gather 54 = .ok (.iconst 1, 1) := by decide +kernel
theorem dX6_gather_55 : decode cX6_gather 55 = .ok (.iadd, 1) := by decide +kernel
theorem dX6_gather_56 : decode cX6_gather 56 = .ok (.aload 4, 2) := by decide +kernel
theorem dX6_gather_58 : decode cX6_gather 58 = .ok (.invokevirtual 59, 3) := by decide +kernel
theorem dX6_gather_61 : decode cX6_gather 61 = .ok (.imul, 1) := by decide +kernel
theorem dX6_gather_62 : decode cX6_gather 62 = .ok (.invokevirtual 65, 3) := by decide +kernel
theorem dX6_gather_65 : decode cX6_gather 65 = .ok (.iinc 2 1, 3) := by decide +kernel
theorem dX6_gather_68 : decode cX6_gather 68 = .ok (.goto (-61), 3) := by decide +kernel
theorem dX6_gather_71 : decode cX6_gather 71 = .ok (.iconst 0, 1) := by decide +kernel
theorem dX6_gather_72 : decode cX6_gather 72 = .ok (.istore_n 2, 1) := by decide +kernel
theorem dX6_gather_73 : decode cX6_gather 73 = .ok (.iload_n 2, 1) := by decide +kernel
theorem dX6_gather_74 : decode cX6_gather 74 = .ok (.aload_n 0, 1) := by decide +kernel
theorem dX6_gather_75 : decode cX6_gather 75 = .ok (.getfield 30, 3) := by decide +kernel
theorem dX6_gather_78 : decode cX6_gather 78 = .ok (.if_icmp .ge 96, 3) := by decide +kernel
theorem dX6_gather_81 : decode cX6_gather 81 = .ok (.aload_n 0, 1) := by decide +kernel
theorem dX6_gather_82 : decode cX6_gather 82 = .ok (.getfield 11, 3) := by decide +kernel
theorem dX6_gather_85 : decode cX6_gather 85 = .ok (.iload_n 2, 1) := by decide +kernel
theorem dX6_gather_86 : decode cX6_gather 86 = .ok (.aaload, 1) := by decide +kernel
theorem dX6_gather_87 : decode cX6_gather 87 = .ok (.ifnonnull 7, 3) := by decide +kernel
theorem dX6_gather_94 : decode cX6_gather 94 = .ok (.aload_n 0, 1) := by decide +kernel
theorem dX6_gather_95 : decode cX6_gather 95 = .ok (.getfield 11, 3) := by decide +kernel
theorem dX6_gather_98 : decode cX6_gather 98 = .ok (.iload_n 2, 1) := by decide +kernel
theorem dX6_gather_99 : decode cX6_gather 99 = .ok (.aaload, 1) := by decide +kernel
theorem dX6_gather_100 : decode cX6_gather 100 = .ok (.getfield 47, 3) := by decide +kernel
theorem dX6_gather_103 : decode cX6_gather 103 = .ok (.getfield 69, 3) := by decide +kernel
theorem dX6_gather_106 : decode cX6_gather 106 = .ok (.astore_n 3, 1) := by decide +kernel
theorem dX6_gather_107 : decode cX6_gather 107 = .ok (.aload_n 3, 1) := by decide +kernel
theorem dX6_gather_108 : decode cX6_gather 108 = .ok (.ifnull 60, 3) := by decide +kernel
theorem dX6_gather_111 : decode cX6_gather 111 = .ok (.aload_n 3, 1) := by decide +kernel
theorem dX6_gather_112 : decode cX6_gather 112 = .ok (.getfield 73, 3) := by decide +kernel
theorem dX6_gather_115 : decode cX6_gather 115 = .ok (.ifCond .le 53, 3) := by decide +kernel
theorem dX6_gather_118 : decode cX6_gather 118 = .ok (.aload_n 0, 1) := by decide +kernel
theorem dX6_gather_119 : decode cX6_gather 119 = .ok (.iconst 2, 1) := by decide +kernel
theorem dX6_gather_120 : decode cX6_gather 120 = .ok (.iload_n 2, 1) := by decide +kernel
theorem dX6_gather_121 : decode cX6_gather 121 = .ok (.imul, 1) := by decide +kernel
theorem dX6_gather_122 : decode cX6_gather 122 = .ok (.aload_n 3, 1) := by decide +kernel
theorem dX6_gather_123 : decode cX6_gather 123 = .ok (.getfield 74, 3) := by decide +kernel
theorem dX6_gather_126 : decode cX6_gather 126 = .ok (.iconst 0, 1) := by decide +kernel
theorem dX6_gather_127 : decode cX6_gather 127 = .ok (.iaload, 1) := by decide +kernel
theorem dX6_gather_128 : decode cX6_gather 128 = .ok (.aload_n 3, 1) := by decide +kernel
theorem dX6_gather_129 : decode cX6_gather 129 = .ok (.getfield 77, 3) := by decide +kernel
theorem dX6_gather_132 : decode cX6_gather 132 = .ok (.iconst 0, 1) := by decide +kernel
theorem dX6_gather_133 : decode cX6_gather 133 = .ok (.iaload, 1) := by decide +kernel
theorem dX6_gather_134 : decode cX6_gather 134 = .ok (.invokevirtual 80, 3) := by decide +kernel
theorem dX6_gather_137 : decode cX6_gather 137 = .ok (.aload_n 0, 1) := by decide +kernel
theorem dX6_gather_138 : decode cX6_gather 138 = .ok (.iconst 2, 1) := by decide +kernel
theorem dX6_gather_139 : decode cX6_gather 139 = .ok (.iload_n 2, 1) := by decide +kernel
theorem dX6_gather_140 : decode cX6_gather 140 = .ok (.imul, 1) := by decide +kernel
theorem dX6_gather_141 : decode cX6_gather 141 = .ok (.iconst 1, 1) := by decide +kernel
theorem dX6_gather_142 : decode cX6_gather 142 = .ok (.iadd, 1) := by decide +kernel
theorem dX6_gather_143 : decode cX6_gather 143 = .ok (.aload_n 3, 1) := by decide +kernel
theorem dX6_gather_144 : decode cX6_gather 144 = .ok (.getfield 74, 3) := by decide +kernel
theorem dX6_gather_147 : decode cX6_gather 147 = .ok (.aload_n 3, 1) := by decide +kernel
theorem dX6_gather_148 : decode cX6_gather 148 = .ok (.getfield 73, 3) := by decide +kernel
theorem dX6_gather_151 : decode cX6_gather 151 = .ok (.iconst 1, 1) := by decide +kernel
theorem dX6_gather_152 : decode cX6_gather 152 = .ok (.isub, 1) := by decide +kernel
theorem dX6_gather_153 : decode cX6_gather 153 = .ok (.iaload, 1) := by decide +kernel
theorem dX6_gather_154 : decode cX6_gather 154 = .ok (.aload_n 3, 1) := by decide +kernel
theorem dX6_gather_155 : decode cX6_gather 155 = .ok (.getfield 77, 3) := by decide +kernel
theorem dX6_gather_158 : decode cX6_gather 158 = .ok (.aload_n 3, 1) := by decide +kernel
theorem dX6_gather_159 : decode cX6_gather 159 = .ok (.getfield 73, 3) := by decide +kernel
theorem dX6_gather_162 : decode cX6_gather 162 = .ok (.iconst 1, 1) := by decide +kernel
theorem dX6_gather_163 : decode cX6_gather 163 = .ok (.isub, 1) := by decide +kernel
theorem dX6_gather_164 : decode cX6_gather 164 = .ok (.iaload, 1) := by decide +kernel
theorem dX6_gather_165 : decode cX6_gather 165 = .ok (.invokevirtual 80, 3) := by decide +kernel
theorem dX6_gather_168 : decode cX6_gather 168 = .ok (.iinc 2 1, 3) := by decide +kernel
theorem dX6_gather_171 : decode cX6_gather 171 = .ok (.goto (-98), 3) := by decide +kernel
theorem dX6_gather_174 : decode cX6_gather 174 = .ok (.return_, 1) := by decide +kernel
theorem dX6_insert_0 : decode cX6_insert 0 = .ok (.aload_n 0, 1) := by decide +kernel
theorem dX6_insert_1 : decode cX6_insert 1 = .ok (.getfield 30, 3) := by decide +kernel
theorem dX6_insert_4 : decode cX6_insert 4 = .ok (.aload_n 0, 1) := by decide +kernel
theorem dX6_insert_5 : decode cX6_insert 5 = .ok (.getfield 11, 3) := by decide +kernel
theorem dX6_insert_8 : decode cX6_insert 8 = .ok (.arraylength, 1) := by decide +kernel
theorem dX6_insert_9 : decode cX6_insert 9 = .ok (.if_icmp .lt 4, 3) := by decide +kernel
theorem dX6_insert_13 : decode cX6_insert 13 = .ok (.aload_n 0, 1) := by decide +kernel
theorem dX6_insert_14 : decode cX6_insert 14 = .ok (.getfield 30, 3) := by decide +kernel
theorem dX6_insert_17 : decode cX6_insert 17 = .ok (.istore_n 3, 1) := by decide +kernel
theorem dX6_insert_18 : decode cX6_insert 18 = .ok (.aload_n 0, 1) := by decide +kernel
theorem dX6_insert_19 : decode cX6_insert 19 = .ok (.getfield 30, 3) := by decide +kernel
theorem dX6_insert_22 : decode cX6_insert 22 = .ok (.iconst 1, 1) := by decide +kernel
theorem dX6_insert_23 : decode cX6_insert 23 = .ok (.isub, 1) := by decide +kernel
theorem dX6_insert_24 : decode cX6_insert 24 = .ok (.istore 4, 2) := by decide +kernel
theorem dX6_insert_26 : decode cX6_insert 26 = .ok (.iload 4, 2) := by decide +kernel
theorem dX6_insert_28 : decode cX6_insert 28 = .ok (.ifCond .lt 55, 3) := by decide +kernel
theorem dX6_insert_31 : decode cX6_insert 31 = .ok (.aload_n 0, 1) := by decide +kernel
theorem dX6_insert_32 : decode cX6_insert 32 = .ok (.getfield 17, 3) := by decide +kernel
theorem dX6_insert_35 : decode cX6_insert 35 = .ok (.iload 4, 2) := by decide +kernel
theorem dX6_insert_37 : decode cX6_insert 37 = .ok (.iaload, 1) := by decide +kernel
theorem dX6_insert_38 : decode cX6_insert 38 = .ok (.iload_n 2, 1) := by decide +kernel
theorem dX6_insert_39 : decode cX6_insert 39 = .ok (.if_icmp .le 44, 3) := by decide +kernel
theorem dX6_insert_42 : decode cX6_insert 42 = .ok (.aload_n 0, 1) := by decide +kernel
theorem dX6_insert_43 : decode cX6_insert 43 = .ok (.getfield 11, 3) := by decide +kernel
theorem dX6_insert_46 : decode cX6_insert 46 = .ok (.iload 4, 2) := by decide +kernel
theorem dX6_insert_48 : decode cX6_insert 48 = .ok (.iconst 1, 1) := by decide +kernel
theorem dX6_insert_49 : decode cX6_insert 49 = .ok (.iadd, 1) := by decide +kernel
theorem dX6_insert_50 : decode cX6_insert 50 = .ok (.aload_n 0, 1) := by decide +kernel
theorem dX6_insert_51 : decode cX6_insert 51 = .ok (.getfield 11, 3) := by decide +kernel
theorem dX6_insert_54 : decode cX6_insert 54 = .ok (.iload 4, 2) := by decide +kernel
theorem dX6_insert_56 : decode cX6_insert 56 = .ok (.aaload, 1) := by decide +kernel
theorem dX6_insert_57 : decode cX6_insert 57 = .ok (.aastore, 1) := by decide +kernel
theorem dX6_insert_58 : decode cX6_insert 58 = .ok (.aload_n 0, 1) := by decide +kernel
theorem dX6_insert_59 : decode cX6_insert 59 = .ok (.getfield 17, 3) := by decide +kernel
theorem dX6_insert_62 : decode cX6_insert 62 = .ok (.iload 4, 2) := by decide +kernel
theorem dX6_insert_64 : decode cX6_insert 64 = .ok (.iconst 1, 1) := by decide +kernel
theorem dX6_insert_65 : decode cX6_insert 65 = .ok (.iadd, 1) := by decide +kernel
theorem dX6_insert_66 : decode cX6_insert 66 = .ok (.aload_n 0, 1) := by decide +kernel
theorem dX6_insert_67 : decode cX6_insert 67 = .ok (.getfield 17, 3) := by decide +kernel
theorem dX6_insert_70 : decode cX6_insert 70 = .ok (.iload 4, 2) := by decide +kernel
theorem dX6_insert_72 : decode cX6_insert 72 = .ok (.iaload, 1) := by decide +kernel
theorem dX6_insert_73 : decode cX6_insert 73 = .ok (.iastore, 1) := by decide +kernel
theorem dX6_insert_74 : decode cX6_insert 74 = .ok (.iload 4, 2) := by decide +kernel
theorem dX6_insert_76 : decode cX6_insert 76 = .ok (.istore_n 3, 1) := by decide +kernel
theorem dX6_insert_77 : decode cX6_insert 77 = .ok (.iinc 4 (-1), 3) := by decide +kernel
theorem dX6_insert_80 : decode cX6_insert 80 = .ok (.goto (-54), 3) := by decide +kernel
theorem dX6_insert_83 : decode cX6_insert 83 = .ok (.aload_n 0, 1) := by decide +kernel
theorem dX6_insert_84 : decode cX6_insert 84 = .ok (.getfield 11, 3) := by decide +kernel
theorem dX6_insert_87 : decode cX6_insert 87 = .ok (.iload_n 3, 1) := by decide +kernel
theorem dX6_insert_88 : decode cX6_insert 88 = .ok (.aload_n 1, 1) := by decide +kernel
theorem dX6_insert_89 : decode cX6_insert 89 = .ok (.aastore, 1) := by decide +kernel
theorem dX6_insert_90 : decode cX6_insert 90 = .ok (.aload_n 0, 1) := by decide +kernel
theorem dX6_insert_91 : decode cX6_insert 91 = .ok (.getfield 17, 3) := by decide +kernel
theorem dX6_insert_94 : decode cX6_insert 94 = .ok (.iload_n 3, 1) := by decide +kernel
theorem dX6_insert_95 : decode cX6_insert 95 = .ok (.iload_n 2, 1) := by decide +kernel
theorem dX6_insert_96 : decode cX6_insert 96 = .ok (.iastore, 1) := by decide +kernel
theorem dX6_insert_97 : decode cX6_insert 97 = .ok (.aload_n 0, 1) := by decide +kernel
theorem dX6_insert_98 : decode cX6_insert 98 = .ok (.dup, 1) := by decide +kernel
theorem dX6_insert_99 : decode cX6_insert 99 = .ok (.getfield 30, 3) := by decide +kernel
theorem dX6_insert_102 : decode cX6_insert 102 = .ok (.iconst 1, 1) := by decide +kernel
theorem dX6_insert_103 : decode cX6_insert 103 = .ok (.iadd, 1) := by decide +kernel
theorem dX6_insert_104 : decode cX6_insert 104 = .ok (.putfield 30, 3) := by decide +kernel
theorem dX6_insert_107 : decode cX6_insert 107 = .ok (.return_, 1) := by decide +kernel
theorem dX6_setEnd_0 : decode cX6_setEnd 0 = .ok (.aload_n 0, 1) := by decide +kernel
theorem dX6_setEnd_1 : decode cX6_setEnd 1 = .ok (.getfield 21, 3) := by decide +kernel
theorem dX6_setEnd_4 : decode cX6_setEnd 4 = .ok (.iload_n 1, 1) := by decide +kernel
theorem dX6_setEnd_5 : decode cX6_setEnd 5 = .ok (.iload_n 2, 1) := by decide +kernel
theorem dX6_setEnd_6 : decode cX6_setEnd 6 = .ok (.iastore, 1) := by decide +kernel
theorem dX6_setEnd_7 : decode cX6_setEnd 7 = .ok (.aload_n 0, 1) := by decide +kernel
theorem dX6_setEnd_8 : decode cX6_setEnd 8 = .ok (.getfield 24, 3) := by decide +kernel
theorem dX6_setEnd_11 : decode cX6_setEnd 11 = .ok (.iload_n 1, 1) := by decide +kernel
theorem dX6_setEnd_12 : decode cX6_setEnd 12 = .ok (.iload_n 3, 1) := by decide +kernel
theorem dX6_setEnd_13 : decode cX6_setEnd 13 = .ok (.iastore, 1) := by decide +kernel
theorem dX6_setEnd_14 : decode cX6_setEnd 14 = .ok (.iconst 0, 1) := by decide +kernel
theorem dX6_setEnd_15 : decode cX6_setEnd 15 = .ok (.istore 4, 2) := by decide +kernel
theorem dX6_setEnd_17 : decode cX6_setEnd 17 = .ok (.iload 4, 2) := by decide +kernel
theorem dX6_setEnd_19 : decode cX6_setEnd 19 = .ok (.iload_n 1, 1) := by decide +kernel
theorem dX6_setEnd_20 : decode cX6_setEnd 20 = .ok (.if_icmp .ge 31, 3) := by decide +kernel
theorem dX6_setEnd_23 : decode cX6_setEnd 23 = .ok (.aload_n 0, 1) := by decide +kernel
theorem dX6_setEnd_24 : decode cX6_setEnd 24 = .ok (.getfield 21, 3) := by decide +kernel
theorem dX6_setEnd_27 : decode cX6_setEnd 27 = .ok (.iload 4, 2) := by decide +kernel
theorem dX6_setEnd_29 : decode cX6_setEnd 29 = .ok (.iaload, 1) := by decide +kernel
theorem dX6_setEnd_30 : decode cX6_setEnd 30 = .ok (.iload_n 2, 1) := by decide +kernel
theorem dX6_setEnd_31 : decode cX6_setEnd 31 = .ok (.if_icmp .ne 14, 3) := by decide +kernel
theorem dX6_setEnd_34 : decode cX6_setEnd 34 = .ok (.aload_n 0, 1) := by decide +kernel
theorem dX6_setEnd_35 : decode cX6_setEnd 35 = .ok (.getfield 24, 3) := by decide +kernel
theorem dX6_setEnd_38 : decode cX6_setEnd 38 = .ok (.iload 4, 2) := by decide +kernel
theorem dX6_setEnd_40 : decode cX6_setEnd 40 = .ok (.iaload, 1) := by decide +kernel
theorem dX6_setEnd_41 : decode cX6_setEnd 41 = .ok (.iload_n 3, 1) := by decide +kernel
theorem dX6_setEnd_42 : decode cX6_setEnd 42 = .ok (.if_icmp .eq 9, 3) := by decide +kernel
theorem dX6_setEnd_45 : decode cX6_setEnd 45 = .ok (.iinc 4 1, 3) := by decide +kernel
theorem dX6_setEnd_48 : decode cX6_setEnd 48 = .ok (.goto (-31), 3) := by decide +kernel
theorem dX6_setEnd_51 : decode cX6_setEnd 51 = .ok (.aload_n 0, 1) := by decide +kernel
theorem dX6_setEnd_52 : decode cX6_setEnd 52 = .ok (.getfield 27, 3) := by decide +kernel
theorem dX6_setEnd_55 : decode cX6_setEnd 55 = .ok (.iload_n 1, 1) := by decide +kernel
theorem dX6_setEnd_56 : decode cX6_setEnd 56 = .ok (.iload 4, 2) := by decide +kernel
theorem dX6_setEnd_58 : decode cX6_setEnd 58 = .ok (.iastore, 1) := by decide +kernel
theorem dX6_setEnd_59 : decode cX6_setEnd 59 = .ok (.return_, 1) := by decide +kernel
theorem dX6_leaveOut_0 : decode cX6_leaveOut 0 = .ok (.iconst 0, 1) := by decide +kernel
theorem dX6_leaveOut_1 : decode cX6_leaveOut 1 = .ok (.istore_n 2, 1) := by decide +kernel
theorem dX6_leaveOut_2 : decode cX6_leaveOut 2 = .ok (.iconst 0, 1) := by decide +kernel
theorem dX6_leaveOut_3 : decode cX6_leaveOut 3 = .ok (.istore_n 3, 1) := by decide +kernel
theorem dX6_leaveOut_4 : decode cX6_leaveOut 4 = .ok (.iload_n 3, 1) := by decide +kernel
theorem dX6_leaveOut_5 : decode cX6_leaveOut 5 = .ok (.aload_n 0, 1) := by decide +kernel
theorem dX6_leaveOut_6 : decode cX6_leaveOut 6 = .ok (.getfield 30, 3) := by decide +kernel
theorem dX6_leaveOut_9 : decode cX6_leaveOut 9 = .ok (.if_icmp .ge 71, 3) := by decide +kernel
theorem dX6_leaveOut_12 : decode cX6_leaveOut 12 = .ok (.aload_n 0, 1) := by decide +kernel
theorem dX6_leaveOut_13 : decode cX6_leaveOut 13 = .ok (.getfield 27, 3) := by decide +kernel
theorem dX6_leaveOut_16 : decode cX6_leaveOut 16 = .ok (.iconst 2, 1) := by decide +kernel
theorem dX6_leaveOut_17 : decode cX6_leaveOut 17 = .ok (.iload_n 3, 1) := by decide +kernel
theorem dX6_leaveOut_18 : decode cX6_leaveOut 18 = .ok (.imul, 1) := by decide +kernel
theorem dX6_leaveOut_19 : decode cX6_leaveOut 19 = .ok (.iaload, 1) := by decide +kernel
theorem dX6_leaveOut_20 : decode cX6_leaveOut 20 = .ok (.istore 4, 2) := by decide +kernel
theorem dX6_leaveOut_22 : decode cX6_leaveOut 22 = .ok (.aload_n 0, 1) := by decide +kernel
theorem dX6_leaveOut_23 : decode cX6_leaveOut 23 = .ok (.getfield 27, 3) := by decide +kernel
theorem dX6_leaveOut_26 : decode cX6_leaveOut 26 = .ok (.iconst 2, 1) := by decide +kernel
theorem dX6_leaveOut_27 : decode cX6_leaveOut 27 = .ok (.iload_n 3, 1) := by decide +kernel
theorem dX6_leaveOut_28 : decode cX6_leaveOut 28 = .ok (.imul, 1) := by decide +kernel
theorem dX6_leaveOut_29 : decode cX6_leaveOut 29 = .ok (.iconst 1, 1) := by decide +kernel
theorem dX6_leaveOut_30 : decode cX6_leaveOut 30 = .ok (.iadd, 1) := by decide +kernel
theorem dX6_leaveOut_31 : decode cX6_leaveOut 31 = .ok (.iaload, 1) := by decide +kernel
theorem dX6_leaveOut_32 : decode cX6_leaveOut 32 = .ok (.istore 5, 2) := by decide +kernel
theorem dX6_leaveOut_34 : decode cX6_leaveOut 34 = .ok (.iload 4, 2) := by decide +kernel
theorem dX6_leaveOut_36 : decode cX6_leaveOut 36 = .ok (.iload 5, 2) := by decide +kernel
theorem dX6_leaveOut_38 : decode cX6_leaveOut 38 = .ok (.if_icmp .eq 14, 3) := by decide +kernel
theorem dX6_leaveOut_41 : decode cX6_leaveOut 41 = .ok (.aload_n 0, 1) := by decide +kernel
theorem dX6_leaveOut_42 : decode cX6_leaveOut 42 = .ok (.iload 4, 2) := by decide +kernel
theorem dX6_leaveOut_44 : decode cX6_leaveOut 44 = .ok (.iload 5, 2) := by decide +kernel
theorem dX6_leaveOut_46 : decode cX6_leaveOut 46 = .ok (.invokevirtual 84, 3) := by decide +kernel
theorem dX6_leaveOut_49 : decode cX6_leaveOut 49 = .ok (.goto 25, 3) := by decide +kernel
theorem dX6_leaveOut_52 : decode cX6_leaveOut 52 = .ok (.aload_n 0, 1) := by decide +kernel
theorem dX6_leaveOut_53 : decode cX6_leaveOut 53 = .ok (.getfield 11, 3) := by decide +kernel
theorem dX6_leaveOut_56 : decode cX6_leaveOut 56 = .ok (.iload_n 3, 1) := by decide +kernel
theorem dX6_leaveOut_57 : decode cX6_leaveOut 57 = .ok (.aaload, 1) := by decide +kernel
theorem dX6_leaveOut_58 : decode cX6_leaveOut 58 = .ok (.ifnull 16, 3) := by decide +kernel
theorem dX6_leaveOut_61 : decode cX6_leaveOut 61 = .ok (.aload_n 0, 1) := by decide +kernel
theorem dX6_leaveOut_62 : decode cX6_leaveOut 62 = .ok (.getfield 11, 3) := by decide +kernel
theorem dX6_leaveOut_65 : decode cX6_leaveOut 65 = .ok (.iload_n 3, 1) := by decide +kernel
theorem dX6_leaveOut_66 : decode cX6_leaveOut 66 = .ok (.aaload, 1) := by decide +kernel
theorem dX6_leaveOut_67 : decode cX6_leaveOut 67 = .ok (.iload_n 1, 1) := by decide +kernel
theorem dX6_leaveOut_68 : decode cX6_leaveOut 68 = .ok (.invokevirtual 88, 3) := by decide +kernel
theorem dX6_leaveOut_71 : decode cX6_leaveOut 71 = .ok (.iinc 2 1, 3) := by decide +kernel
theorem dX6_leaveOut_74 : decode cX6_leaveOut 74 = .ok (.iinc 3 1, 3) := by decide +kernel
theorem dX6_leaveOut_77 : decode cX6_leaveOut 77 = .ok (.goto (-73), 3) := by decide +kernel
theorem dX6_leaveOut_80 : decode cX6_leaveOut 80 = .ok (.iload_n 2, 1) := by decide +kernel
theorem dX6_leaveOut_81 : decode cX6_leaveOut 81 = .ok (.ireturn, 1) := by decide +kernel
theorem dX6_uniteGroups_0 : decode cX6_uniteGroups 0 = .ok (.iconst 0, 1) := by decide +kernel
theorem dX6_uniteGroups_1 : decode cX6_uniteGroups 1 = .ok (.istore_n 3, 1) := by decide +kernel
theorem dX6_uniteGroups_2 : decode cX6_uniteGroups 2 = .ok (.iload_n 3, 1) := by decide +kernel
theorem dX6_uniteGroups_3 : decode cX6_uniteGroups 3 = .ok (.iconst 2, 1) := by decide +kernel
theorem dX6_uniteGroups_4 : decode cX6_uniteGroups 4 = .ok (.aload_n 0, 1) := by decide +kernel
theorem dX6_uniteGroups_5 : decode cX6_uniteGroups 5 = .ok (.getfield 30, 3) := by decide +kernel
theorem dX6_uniteGroups_8 : decode cX6_uniteGroups 8 = .ok (.imul, 1) := by decide +kernel
theorem dX6_uniteGroups_9 : decode cX6_uniteGroups 9 = .ok (.if_icmp .ge 26, 3) := by decide +kernel
theorem dX6_uniteGroups_12 : decode cX6_uniteGroups 12 = .ok (.aload_n 0, 1) := by decide +kernel
theorem dX6_uniteGroups_13 : decode cX6_uniteGroups 13 = .ok (.getfield 27, 3) := by decide +kernel
theorem dX6_uniteGroups_16 : decode cX6_uniteGroups 16 = .ok (.iload_n 3, 1) := by decide +kernel
theorem dX6_uniteGroups_17 : decode cX6_uniteGroups 17 = .ok (.iaload, 1) := by decide +kernel
theorem dX6_uniteGroups_18 : decode cX6_uniteGroups 18 = .ok (.iload_n 2, 1) := by decide +kernel
theorem dX6_uniteGroups_19 : decode cX6_uniteGroups 19 = .ok (.if_icmp .ne 10, 3) := by decide +kernel
theorem dX6_uniteGroups_22 : decode cX6_uniteGroups 22 = .ok (.aload_n 0, 1) := by decide +kernel
theorem dX6_uniteGroups_23 : decode cX6_uniteGroups 23 = .ok (.getfield 27, 3) := by decide +kernel
theorem dX6_uniteGroups_26 : decode cX6_uniteGroups 26 = .ok (.iload_n 3, 1) := by decide +kernel
theorem dX6_uniteGroups_27 : decode cX6_uniteGroups 27 = .ok (.iload_n 1, 1) := by decide +kernel
theorem dX6_uniteGroups_28 : decode cX6_uniteGroups 28 = .ok (.iastore, 1) := by decide +kernel
theorem dX6_uniteGroups_29 : decode cX6_uniteGroups 29 = .ok (.iinc 3 1, 3) := by decide +kernel
theorem dX6_uniteGroups_32 : decode cX6_uniteGroups 32 = .ok (.goto (-30), 3) := by decide +kernel
theorem dX6_uniteGroups_35 : decode cX6_uniteGroups 35 = .ok (.return_, 1) := by decide +kernel
theorem dX7_init_0 : decode cX7_init 0 = .ok (.aload_n 0, 1) := by decide +kernel
theorem dX7_init_1 : decode cX7_init 1 = .ok (.invokespecial 3, 3) := by decide +kernel
theorem dX7_init_4 : decode cX7_init 4 = .ok (.aload_n 0, 1) := by decide +kernel
theorem dX7_init_5 : decode cX7_init 5 = .ok (.iconst 0, 1) := by decide +kernel
theorem dX7_init_6 : decode cX7_init 6 = .ok (.putfield 9, 3) := by decide +kernel
theorem dX7_init_9 : decode cX7_init 9 = .ok (.iload_n 1, 1) := by decide +kernel
theorem dX7_init_10 : decode cX7_init 10 = .ok (.iconst 1, 1) := by decide +kernel
theorem dX7_init_11 : decode cX7_init 11 = .ok (.invokestatic 15, 3) := by decide +kernel
theorem dX7_init_14 : decode cX7_init 14 = .ok (.istore_n 3, 1) := by decide +kernel
theorem dX7_init_15 : decode cX7_init 15 = .ok (.aload_n 0, 1) := by decide +kernel
theorem dX7_init_16 : decode cX7_init 16 = .ok (.iload_n 3, 1) := by decide +kernel
theorem dX7_init_17 : decode cX7_init 17 = .ok (.newarray .int, 2) := by decide +kernel
theorem dX7_init_19 : decode cX7_init 19 = .ok (.putfield 21, 3) := by decide +kernel
theorem dX7_init_22 : decode cX7_init 22 = .ok (.aload_n 0, 1) := by decide +kernel
theorem dX7_init_23 : decode cX7_init 23 = .ok (.iload_n 3, 1) := by decide +kernel
theorem dX7_init_24 : decode cX7_init 24 = .ok (.newarray .int, 2) := by decide +kernel
theorem dX7_init_26 : decode cX7_init 26 = .ok (.putfield 25, 3) := by decide +kernel
theorem dX7_init_29 : decode cX7_init 29 = .ok (.aload_n 0, 1) := by decide +kernel
theorem dX7_init_30 : decode cX7_init 30 = .ok (.iload_n 2, 1) := by decide +kernel
theorem dX7_init_31 : decode cX7_init 31 = .ok (.putfield 28, 3) := by decide +kernel
theorem dX7_init_34 : decode cX7_init 34 = .ok (.return_, 1) := by decide +kernel
theorem dX7_put_0 : decode cX7_put 0 = .ok (.aload_n 0, 1) := by decide +kernel
theorem dX7_put_1 : decode cX7_put 1 = .ok (.getfield 9, 3) := by decide +kernel
theorem dX7_put_4 : decode cX7_put 4 = .ok (.aload_n 0, 1) := by decide +kernel
theorem dX7_put_5 : decode cX7_put 5 = .ok (.getfield 21, 3) := by decide +kernel
theorem dX7_put_8 : decode cX7_put 8 = .ok (.arraylength, 1) := by decide +kernel
theorem dX7_put_9 : decode cX7_put 9 = .ok (.if_icmp .ge 33, 3) := by decide +kernel
theorem dX7_put_12 : decode cX7_put 12 = .ok (.aload_n 0, 1) := by decide +kernel
theorem dX7_put_13 : decode cX7_put 13 = .ok (.getfield 21, 3) := by decide +kernel
theorem dX7_put_16 : decode cX7_put 16 = .ok (.aload_n 0, 1) := by decide +kernel
theorem dX7_put_17 : decode cX7_put 17 = .ok (.getfield 9, 3) := by decide +kernel
theorem dX7_put_20 : decode cX7_put 20 = .ok (.iload_n 1, 1) := by decide +kernel
theorem dX7_put_21 : decode cX7_put 21 = .ok (.iastore, 1) := by decide +kernel
theorem dX7_put_22 : decode cX7_put 22 = .ok (.aload_n 0, 1) := by decide +kernel
theorem dX7_put_23 : decode cX7_put 23 = .ok (.getfield 25, 3) := by decide +kernel
theorem dX7_put_26 : decode cX7_put 26 = .ok (.aload_n 0, 1) := by decide +kernel
theorem dX7_put_27 : decode cX7_put 27 = .ok (.getfield 9, 3) := by decide +kernel
theorem dX7_put_30 : decode cX7_put 30 = .ok (.iload_n 2, 1) := by decide +kernel
theorem dX7_put_31 : decode cX7_put 31 = .ok (.iastore, 1) := by decide +kernel
theorem dX7_put_32 : decode cX7_put 32 = .ok (.aload_n 0, 1) := by decide +kernel
theorem dX7_put_33 : decode cX7_put 33 = .ok (.dup, 1) := by decide +kernel
theorem dX7_put_34 : decode cX7_put 34 = .ok (.getfield 9, 3) := by decide +kernel
theorem dX7_put_37 : decode cX7_put 37 = .ok (.iconst 1, 1) := by decide +kernel
theorem dX7_put_38 : decode cX7_put 38 = .ok (.iadd, 1) := by decide +kernel
theorem dX7_put_39 : decode cX7_put 39 = .ok (.putfield 9, 3) := by decide +kernel
theorem dX7_put_42 : decode cX7_put 42 = .ok (.return_, 1) := by decide +kernel
theorem dX7_clear_0 : decode cX7_clear 0 = .ok (.aload_n 0, 1) := by decide +kernel
theorem dX7_clear_1 : decode cX7_clear 1 = .ok (.iconst 0, 1) := by decide +kernel
theorem dX7_clear_2 : decode cX7_clear 2 = .ok (.putfield 9, 3) := by decide +kernel
theorem dX7_clear_5 : decode cX7_clear 5 = .ok (.aload_n 0, 1) := by decide +kernel
theorem dX7_clear_6 : decode cX7_clear 6 = .ok (.iload_n 1, 1) := by decide +kernel
theorem dX7_clear_7 : decode cX7_clear 7 = .ok (.putfield 28, 3) := by decide +kernel
theorem dX7_clear_10 : decode cX7_clear 10 = .ok (.return_, 1) := by decide +kernel
theorem dX7_copyFrom_0 : decode cX7_copyFrom 0 = .ok (.aload_n 0, 1) := by decide +kernel
theorem dX7_copyFrom_1 : decode cX7_copyFrom 1 = .ok (.aload_n 1, 1) := by decide +kernel
theorem dX7_copyFrom_2 : decode cX7_copyFrom 2 = .ok (.getfield 28, 3) := by decide +kernel
theorem dX7_copyFrom_5 : decode cX7_copyFrom 5 = .ok (.invokevirtual 32, 3) := by decide +kernel
theorem dX7_copyFrom_8 : decode cX7_copyFrom 8 = .ok (.iconst 0, 1) := by decide +kernel
theorem dX7_copyFrom_9 : decode cX7_copyFrom 9 = .ok (.istore_n 2, 1) := by decide +kernel
theorem dX7_copyFrom_10 : decode cX7_copyFrom 10 = .ok (.iload_n 2, 1) := by decide +kernel
theorem dX7_copyFrom_11 : decode cX7_copyFrom 11 = .ok (.aload_n 1, 1) := by decide +kernel
theorem dX7_copyFrom_12 : decode cX7_copyFrom 12 = .ok (.getfield 9, 3) := by decide +kernel
theorem dX7_copyFrom_15 : decode cX7_copyFrom 15 = .ok (.if_icmp .ge 25, 3) := by decide +kernel
theorem dX7_copyFrom_18 : decode cX7_copyFrom 18 = .ok (.aload_n 0, 1) := by decide +kernel
theorem dX7_copyFrom_19 : decode cX7_copyFrom 19 = .ok (.aload_n 1, 1) := by decide +kernel
theorem dX7_copyFrom_20 : decode cX7_copyFrom 20 = .ok (.getfield 21, 3) := by decide +kernel
theorem dX7_copyFrom_23 : decode cX7_copyFrom 23 = .ok (.iload_n 2, 1) := by decide +kernel
theorem dX7_copyFrom_24 : decode cX7_copyFrom 24 = .ok (.iaload, 1) := by decide +kernel
theorem dX7_copyFrom_25 : decode cX7_copyFrom 25 = .ok (.aload_n 1, 1) := by decide +kernel
theorem dX7_copyFrom_26 : decode cX7_copyFrom 26 = .ok (.getfield 25, 3) := by decide +kernel
theorem dX7_copyFrom_29 : decode cX7_copyFrom 29 = .ok (.iload_n 2, 1) := by decide +kernel
theorem dX7_copyFrom_30 : decode cX7_copyFrom 30 = .ok (.iaload, 1) := by decide +kernel
theorem dX7_copyFrom_31 : decode cX7_copyFrom 31 = .ok (.invokevirtual 36, 3) := by decide +kernel
theorem dX7_copyFrom_34 : decode cX7_copyFrom 34 = .ok (.iinc 2 1, 3) := by decide +kernel
theorem dX7_copyFrom_37 : decode cX7_copyFrom 37 = .ok (.goto (-27), 3) := by decide +kernel
theorem dX7_copyFrom_40 : decode cX7_copyFrom 40 = .ok (.return_, 1) := by decide +kernel
theorem dX7_copy_0 : decode cX7_copy 0 = .ok (.new 10, 3) := by decide +kernel
theorem dX7_copy_3 : decode cX7_copy 3 = .ok (.dup, 1) := by decide +kernel
theorem dX7_copy_4 : decode cX7_copy 4 = .ok (.aload_n 0, 1) := by decide +kernel
theorem dX7_copy_5 : decode cX7_copy 5 = .ok (.getfield 9, 3) := by decide +kernel
theorem dX7_copy_8 : decode cX7_copy 8 = .ok (.aload_n 0, 1) := by decide +kernel
theorem dX7_copy_9 : decode cX7_copy 9 = .ok (.getfield 28, 3) := by decide +kernel
theorem dX7_copy_12 : decode cX7_copy 12 = .ok (.invokespecial 40, 3) := by decide +kernel
theorem dX7_copy_15 : decode cX7_copy 15 = .ok (.astore_n 1, 1) := by decide +kernel
theorem dX7_copy_16 : decode cX7_copy 16 = .ok (.aload_n 1, 1) := by decide +kernel
theorem dX7_copy_17 : decode cX7_copy 17 = .ok (.aload_n 0, 1) := by decide +kernel
theorem dX7_copy_18 : decode cX7_copy 18 = .ok (.invokevirtual 43, 3) := by decide +kernel
theorem dX7_copy_21 : decode cX7_copy 21 = .ok (.aload_n 1, 1) := by decide +kernel
theorem dX7_copy_22 : decode cX7_copy 22 = .ok (.areturn, 1) := by decide +kernel
theorem dX7_cut_0 : decode cX7_cut 0 = .ok (.iload_n 1, 1) := by decide +kernel
theorem dX7_cut_1 : decode cX7_cut 1 = .ok (.iconst 0, 1) := by decide +kernel
theorem dX7_cut_2 : decode cX7_cut 2 = .ok (.invokestatic 15, 3) := by decide +kernel
theorem dX7_cut_5 : decode cX7_cut 5 = .ok (.istore_n 2, 1) := by decide +kernel
theorem dX7_cut_6 : decode cX7_cut 6 = .ok (.iload_n 2, 1) := by decide +kernel
theorem dX7_cut_7 : decode cX7_cut 7 = .ok (.aload_n 0, 1) := by decide +kernel
theorem dX7_cut_8 : decode cX7_cut 8 = .ok (.getfield 9, 3) := by decide +kernel
theorem dX7_cut_11 : decode cX7_cut 11 = .ok (.iconst 1, 1) := by decide +kernel
theorem dX7_cut_12 : decode cX7_cut 12 = .ok (.isub, 1) := by decide +kernel
theorem dX7_cut_13 : decode cX7_cut 13 = .ok (.if_icmp .ge 37, 3) := by decide +kernel
theorem dX7_cut_16 : decode cX7_cut 16 = .ok (.aload_n 0, 1) := by decide +kernel
theorem dX7_cut_17 : decode cX7_cut 17 = .ok (.getfield 21, 3) := by decide +kernel
theorem dX7_cut_20 : decode cX7_cut 20 = .ok (.iload_n 2, 1) := by decide +kernel
theorem dX7_cut_21 : decode cX7_cut 21 = .ok (.aload_n 0, 1) := by decide +kernel
theorem dX7_cut_22 : decode cX7_cut 22 = .ok (.getfield 21, 3) := by decide +kernel
theorem dX7_cut_25 : decode cX7_cut 25 = .ok (.iload_n 2, 1) := by decide +kernel
theorem dX7_cut_26 : decode cX7_cut 26 = .ok (.iconst 1, 1) := by decide +kernel
theorem dX7_cut_27 : decode cX7_cut 27 = .ok (.iadd, 1) := by decide +kernel
theorem dX7_cut_28 : decode cX7_cut 28 = .ok (.iaload, 1) := by decide +kernel
theorem dX7_cut_29 : decode cX7_cut 29 = .ok (.iastore, 1) := by decide +kernel
theorem dX7_cut_30 : decode cX7_cut 30 = .ok (.aload_n 0, 1) := by decide +kernel
theorem dX7_cut_31 : decode cX7_cut 31 = .ok (.getfield 25, 3) := by decide +kernel
theorem dX7_cut_34 : decode cX7_cut 34 = .ok (.iload_n 2, 1) := by decide +kernel
theorem dX7_cut_35 : decode cX7_cut 35 = .ok (.aload_n 0, 1) := by decide +kernel
theorem dX7_cut_36 : decode cX7_cut 36 = .ok (.getfield 25, 3) := by decide +kernel
theorem dX7_cut_39 : decode cX7_cut 39 = .ok (.iload_n 2, 1) := by decide +kernel
theorem dX7_cut_40 : decode cX7_cut 40 = .ok (.iconst 1, 1) := by decide +kernel
theorem dX7_cut_41 : decode cX7_cut 41 = .ok (.iadd, 1) := by decide +kernel
theorem dX7_cut_42 : decode cX7_cut 42 = .ok (.iaload, 1) := by decide +kernel
theorem dX7_cut_43 : decode cX7_cut 43 = .ok (.iastore, 1) := by decide +kernel
theorem dX7_cut_44 : decode cX7_cut 44 = .ok (.iinc 2 1, 3) := by decide +kernel
theorem dX7_cut_47 : decode cX7_cut 47 = .ok (.goto (-41), 3) := by decide +kernel
theorem dX7_cut_50 : decode cX7_cut 50 = .ok (.aload_n 0, 1) := by decide +kernel
theorem dX7_cut_51 : decode cX7_cut 51 = .ok (.aload_n 0, 1) := by decide +kernel
theorem dX7_cut_52 : decode cX7_cut 52 = .ok (.getfield 9, 3) := by decide +kernel
theorem dX7_cut_55 : decode cX7_cut 55 = .ok (.iconst 1, 1) := by decide +kernel
theorem dX7_cut_56 : decode cX7_cut 56 = .ok (.isub, 1) := by decide +kernel
theorem dX7_cut_57 : decode cX7_cut 57 = .ok (.iconst 0, 1) := by decide +kernel
theorem dX7_cut_58 : decode cX7_cut 58 = .ok (.invokestatic 15, 3) := by decide +kernel
theorem dX7_cut_61 : decode cX7_cut 61 = .ok (.putfield 9, 3) := by decide +kernel
theorem dX7_cut_64 : decode cX7_cut 64 = .ok (.return_, 1) := by decide +kernel
theorem dX7_edges_0 : decode cX7_edges 0 = .ok (.aload_n 0, 1) := by decide +kernel
theorem dX7_edges_1 : decode cX7_edges 1 = .ok (.getfield 9, 3) := by decide +kernel
theorem dX7_edges_4 : decode cX7_edges 4 = .ok (.iconst 2, 1) := by decide +kernel
theorem dX7_edges_5 : decode cX7_edges 5 = .ok (.if_icmp .ge 5, 3) := by decide +kernel
theorem dX7_edges_8 : decode cX7_edges 8 = .ok (.iconst 0, 1) := by decide +kernel
theorem dX7_edges_9 : decode cX7_edges 9 = .ok (.ireturn, 1) := by decide +kernel
theorem dX7_edges_10 : decode cX7_edges 10 = .ok (.aload_n 0, 1) := by decide +kernel
theorem dX7_edges_11 : decode cX7_edges 11 = .ok (.getfield 28, 3) := by decide +kernel
theorem dX7_edges_14 : decode cX7_edges 14 = .ok (.ifCond .eq 10, 3) := by decide +kernel
theorem dX7_edges_17 : decode cX7_edges 17 = .ok (.aload_n 0, 1) := by decide +kernel
theorem dX7_edges_18 : decode cX7_edges 18 = .ok (.getfield 9, 3) := by decide +kernel
theorem dX7_edges_21 : decode cX7_edges 21 = .ok (.goto 9, 3) := by decide +kernel
theorem dX7_edges_24 : decode cX7_edges 24 = .ok (.aload_n 0, 1) := by decide +kernel
theorem dX7_edges_25 : decode cX7_edges 25 = .ok (.getfield 9, 3) := by decide +kernel
theorem dX7_edges_28 : decode cX7_edges 28 = .ok (.iconst 1, 1) := by decide +kernel
theorem dX7_edges_29 : decode cX7_edges 29 = .ok (.isub, 1) := by decide +kernel
theorem dX7_edges_30 : decode cX7_edges 30 = .ok (.ireturn, 1) := by decide +kernel
theorem dX7_parts_0 : decode cX7_parts 0 = .ok (.aload_n 0, 1) := by decide +kernel
theorem dX7_parts_1 : decode cX7_parts 1 = .ok (.getfield 9, 3) := by decide +kernel
theorem dX7_parts_4 : decode cX7_parts 4 = .ok (.iconst 1, 1) := by decide +kernel
theorem dX7_parts_5 : decode cX7_parts 5 = .ok (.if_icmp .ne 7, 3) := by decide +kernel
theorem dX7_parts_8 : decode cX7_parts 8 = .ok (.iconst 1, 1) := by decide +kernel
theorem dX7_parts_9 : decode cX7_parts 9 = .ok (.goto 7, 3) := by decide +kernel
theorem dX7_parts_12 : decode cX7_parts 12 = .ok (.aload_n 0, 1) := by decide +kernel
theorem dX7_parts_13 : decode cX7_parts 13 = .ok (.invokevirtual 47, 3) := by decide +kernel
theorem dX7_parts_16 : decode cX7_parts 16 = .ok (.ireturn, 1) := by decide +kernel
theorem dX7_next_0 : decode cX7_next 0 = .ok (.iload_n 1, 1) := by decide +kernel
theorem dX7_next_1 : decode cX7_next 1 = .ok (.iconst 1, 1) := by decide +kernel
theorem dX7_next_2 : decode cX7_next 2 = .ok (.iadd, 1) := by decide +kernel
theorem dX7_next_3 : decode cX7_next 3 = .ok (.aload_n 0, 1) := by decide +kernel
theorem dX7_next_4 : decode cX7_next 4 = .ok (.getfield 9, 3) := by decide +kernel
theorem dX7_next_7 : decode cX7_next 7 = .ok (.if_icmp .ge 9, 3) := by decide +kernel
theorem dX7_next_10 : decode cX7_next 10 = .ok (.iload_n 1, 1) := by decide +kernel
theorem dX7_next_11 : decode cX7_next 11 = .ok (.iconst 1, 1) := by decide +kernel
theorem dX7_next_12 : decode cX7_next 12 = .ok (.iadd, 1) := by decide +kernel
theorem dX7_next_13 : decode cX7_next 13 = .ok (.goto 4, 3) := by decide +kernel
theorem dX7_next_16 : decode cX7_next 16 = .ok (.iconst 0, 1) := by decide +kernel
theorem dX7_next_17 : decode cX7_next 17 = .ok (.ireturn, 1) := by decide +kernel
theorem dX7_previous_0 : decode cX7_previous 0 = .ok (.iload_n 1, 1) := by decide +kernel
theorem dX7_previous_1 : decode cX7_previous 1 = .ok (.ifCond .le 9, 3) := by decide +kernel
theorem dX7_previous_4 : decode cX7_previous 4 = .ok (.iload_n 1, 1) := by decide +kernel
theorem dX7_previous_5 : decode cX7_previous 5 = .ok (.iconst 1, 1) := by decide +kernel
theorem dX7_previous_6 : decode cX7_previous 6 = .ok (.isub, 1) := by decide +kernel
theorem dX7_previous_7 : decode cX7_previous 7 = .ok (.goto 9, 3) := by decide +kernel
theorem dX7_previous_10 : decode cX7_previous 10 = .ok (.aload_n 0, 1) := by decide +kernel
theorem dX7_previous_11 : decode cX7_previous 11 = .ok (.getfield 9, 3) := by decide +kernel
theorem dX7_previous_14 : decode cX7_previous 14 = .ok (.iconst 1, 1) := by decide +kernel
theorem dX7_previous_15 : decode cX7_previous 15 = .ok (.isub, 1) := by decide +kernel
theorem dX7_previous_16 : decode cX7_previous 16 = .ok (.ireturn, 1) := by decide +kernel
theorem dX7_isEnd_0 : decode cX7_isEnd 0 = .ok (.aload_n 0, 1) := by decide +kernel
theorem dX7_isEnd_1 : decode cX7_isEnd 1 = .ok (.getfield 28, 3) := by decide +kernel
theorem dX7_isEnd_4 : decode cX7_isEnd 4 = .ok (.ifCond .ne 21, 3) := by decide +kernel
theorem dX7_isEnd_7 : decode cX7_isEnd 7 = .ok (.iload_n 1, 1) := by decide +kernel
theorem dX7_isEnd_8 : decode cX7_isEnd 8 = .ok (.ifCond .eq 13, 3) := by decide +kernel
theorem dX7_isEnd_11 : decode cX7_isEnd 11 = .ok (.iload_n 1, 1) := by decide +kernel
theorem dX7_isEnd_12 : decode cX7_isEnd 12 = .ok (.aload_n 0, 1) := by decide +kernel
theorem dX7_isEnd_13 : decode cX7_isEnd 13 = .ok (.getfield 9, 3) := by decide +kernel
theorem dX7_isEnd_16 : decode cX7_isEnd 16 = .ok (.iconst 1, 1) := by decide +kernel
theorem dX7_isEnd_17 : decode cX7_isEnd 17 = .ok (.isub, 1) := by decide +kernel
theorem dX7_isEnd_18 : decode cX7_isEnd 18 = .ok (.if_icmp .ne 7, 3) := by decide +kernel
theorem dX7_isEnd_21 : decode cX7_isEnd 21 = .ok (.iconst 1, 1) := by decide +kernel
theorem dX7_isEnd_22 : decode cX7_isEnd 22 = .ok (.goto 4, 3) := by decide +kernel
theorem dX7_isEnd_25 : decode cX7_isEnd 25 = .ok (.iconst 0, 1) := by decide +kernel
theorem dX7_isEnd_26 : decode cX7_isEnd 26 = .ok (.ireturn, 1) := by decide +kernel
theorem dX7_turn_0 : decode cX7_turn 0 = .ok (.iload_n 1, 1) := by decide +kernel
theorem dX7_turn_1 : decode cX7_turn 1 = .ok (.iconst 1, 1) := by decide +kernel
theorem dX7_turn_2 : decode cX7_turn 2 = .ok (.iadd, 1) := by decide +kernel
theorem dX7_turn_3 : decode cX7_turn 3 = .ok (.aload_n 0, 1) := by decide +kernel
theorem dX7_turn_4 : decode cX7_turn 4 = .ok (.getfield 9, 3) := by decide +kernel
theorem dX7_turn_7 : decode cX7_turn 7 = .ok (.if_icmp .ge 9, 3) := by decide +kernel
theorem dX7_turn_10 : decode cX7_turn 10 = .ok (.iload_n 1, 1) := by decide +kernel
theorem dX7_turn_11 : decode cX7_turn 11 = .ok (.iconst 1, 1) := by decide +kernel
theorem dX7_turn_12 : decode cX7_turn 12 = .ok (.iadd, 1) := by decide +kernel
theorem dX7_turn_13 : decode cX7_turn 13 = .ok (.goto 4, 3) := by decide +kernel
theorem dX7_turn_16 : decode cX7_turn 16 = .ok (.iconst 0, 1) := by decide +kernel
theorem dX7_turn_17 : decode cX7_turn 17 = .ok (.istore 4, 2) := by decide +kernel
theorem dX7_turn_19 : decode cX7_turn 19 = .ok (.aload_n 0, 1) := by decide +kernel
theorem dX7_turn_20 : decode cX7_turn 20 = .ok (.getfield 21, 3) := by decide +kernel
theorem dX7_turn_23 : decode cX7_turn 23 = .ok (.iload 4, 2) := by decide +kernel
theorem dX7_turn_25 : decode cX7_turn 25 = .ok (.iaload, 1) := by decide +kernel
theorem dX7_turn_26 : decode cX7_turn 26 = .ok (.aload_n 0, 1) := by decide +kernel
theorem dX7_turn_27 : decode cX7_turn 27 = .ok (.getfield 21, 3) := by decide +kernel
theorem dX7_turn_30 : decode cX7_turn 30 = .ok (.iload_n 1, 1) := by decide +kernel
theorem dX7_turn_31 : decode cX7_turn 31 = .ok (.iaload, 1) := by decide +kernel
theorem dX7_turn_32 : decode cX7_turn 32 = .ok (.isub, 1) := by decide +kernel
theorem dX7_turn_33 : decode cX7_turn 33 = .ok (.iload_n 3, 1) := by decide +kernel
theorem dX7_turn_34 : decode cX7_turn 34 = .ok (.aload_n 0, 1) := by decide +kernel
theorem dX7_turn_35 : decode cX7_turn 35 = .ok (.getfield 25, 3) := by decide +kernel
theorem dX7_turn_38 : decode cX7_turn 38 = .ok (.iload_n 1, 1) := by decide +kernel
theorem dX7_turn_39 : decode cX7_turn 39 = .ok (.iaload, 1) := by decide +kernel
theorem dX7_turn_40 : decode cX7_turn 40 = .ok (.isub, 1) := by decide +kernel
theorem dX7_turn_41 : decode cX7_turn 41 = .ok (.imul, 1) := by decide +kernel
theorem dX7_turn_42 : decode cX7_turn 42 = .ok (.aload_n 0, 1) := by decide +kernel
theorem dX7_turn_43 : decode cX7_turn 43 = .ok (.getfield 25, 3) := by decide +kernel
theorem dX7_turn_46 : decode cX7_turn 46 = .ok (.iload 4, 2) := by decide +kernel
theorem dX7_turn_48 : decode cX7_turn 48 = .ok (.iaload, 1) := by decide +kernel
theorem dX7_turn_49 : decode cX7_turn 49 = .ok (.aload_n 0, 1) := by decide +kernel
theorem dX7_turn_50 : decode cX7_turn 50 = .ok (.getfield 25, 3) := by decide +kernel
theorem dX7_turn_53 : decode cX7_turn 53 = .ok (.iload_n 1, 1) := by decide +kernel
theorem dX7_turn_54 : decode cX7_turn 54 = .ok (.iaload, 1) := by decide +kernel
theorem dX7_turn_55 : decode cX7_turn 55 = .ok (.isub, 1) := by decide +kernel
theorem dX7_turn_56 : decode cX7_turn 56 = .ok (.iload_n 2, 1) := by decide +kernel
theorem dX7_turn_57 : decode cX7_turn 57 = .ok (.aload_n 0, 1) := by decide +kernel
theorem dX7_turn_58 : decode cX7_turn 58 = .ok (.getfield 21, 3) := by decide +kernel
theorem dX7_turn_61 : decode cX7_turn 61 = .ok (.iload_n 1, 1) := by decide +kernel
theorem dX7_turn_62 : decode cX7_turn 62 = .ok (.iaload, 1) := by decide +kernel
theorem dX7_turn_63 : decode cX7_turn 63 = .ok (.isub, 1) := by decide +kernel
theorem dX7_turn_64 : decode cX7_turn 64 = .ok (.imul, 1) := by decide +kernel
theorem dX7_turn_65 : decode cX7_turn 65 = .ok (.isub, 1) := by decide +kernel
theorem dX7_turn_66 : decode cX7_turn 66 = .ok (.ireturn, 1) := by decide +kernel
theorem dX7_isOn_0 : decode cX7_isOn 0 = .ok (.iload_n 1, 1) := by decide +kernel
theorem dX7_isOn_1 : decode cX7_isOn 1 = .ok (.iconst 1, 1) := by decide +kernel
theorem dX7_isOn_2 : decode cX7_isOn 2 = .ok (.iadd, 1) := by decide +kernel
theorem dX7_isOn_3 : decode cX7_isOn 3 = .ok (.aload_n 0, 1) := by decide +kernel
theorem dX7_isOn_4 : decode cX7_isOn 4 = .ok (.getfield 9, 3) := by decide +kernel
theorem dX7_isOn_7 : decode cX7_isOn 7 = .ok (.if_icmp .ge 9, 3) := by decide +kernel
theorem dX7_isOn_10 : decode cX7_isOn 10 = .ok (.iload_n 1, 1) := by decide +kernel
theorem dX7_isOn_11 : decode cX7_isOn 11 = .ok (.iconst 1, 1) := by decide +kernel
theorem dX7_isOn_12 : decode cX7_isOn 12 = .ok (.iadd, 1) := by decide +kernel
theorem dX7_isOn_13 : decode cX7_isOn 13 = .ok (.goto 4, 3) := by decide +kernel
theorem dX7_isOn_16 : decode cX7_isOn 16 = .ok (.iconst 0, 1) := by decide +kernel
theorem dX7_isOn_17 : decode cX7_isOn 17 = .ok (.istore 4, 2) := by decide +kernel
theorem dX7_isOn_19 : decode cX7_isOn 19 = .ok (.iload_n 2, 1) := by decide +kernel
theorem dX7_isOn_20 : decode cX7_isOn 20 = .ok (.aload_n 0, 1) := by decide +kernel
theorem dX7_isOn_21 : decode cX7_isOn 21 = .ok (.getfield 21, 3) := by decide +kernel
theorem dX7_isOn_24 : decode cX7_isOn 24 = .ok (.iload_n 1, 1) := by decide +kernel
theorem dX7_isOn_25 : decode cX7_isOn 25 = .ok (.iaload, 1) := by decide +kernel
theorem dX7_isOn_26 : decode cX7_isOn 26 = .ok (.if_icmp .ge 14, 3) := by decide +kernel
theorem dX7_isOn_29 : decode cX7_isOn 29 = .ok (.iload_n 2, 1) := by decide +kernel
theorem dX7_isOn_30 : decode cX7_isOn 30 = .ok (.aload_n 0, 1) := by decide +kernel
theorem dX7_isOn_31 : decode cX7_isOn 31 = .ok (.getfield 21, 3) := by decide +kernel
theorem dX7_isOn_34 : decode cX7_isOn 34 = .ok (.iload 4, 2) := by decide +kernel
theorem dX7_isOn_36 : decode cX7_isOn 36 = .ok (.iaload, 1) := by decide +kernel
theorem dX7_isOn_37 : decode cX7_isOn 37 = .ok (.if_icmp .lt 24, 3) := by decide +kernel
theorem dX7_isOn_40 : decode cX7_isOn 40 = .ok (.iload_n 2, 1) := by decide +kernel
theorem dX7_isOn_41 : decode cX7_isOn 41 = .ok (.aload_n 0, 1) := by decide +kernel
theorem dX7_isOn_42 : decode cX7_isOn 42 = .ok (.getfield 21, 3) := by decide +kernel
theorem dX7_isOn_45 : decode cX7_isOn 45 = .ok (.iload_n 1, 1) := by decide +kernel
theorem dX7_isOn_46 : decode cX7_isOn 46 = .ok (.iaload, 1) := by decide +kernel
theorem dX7_isOn_47 : decode cX7_isOn 47 = .ok (.if_icmp .le 16, 3) := by decide +kernel
theorem dX7_isOn_50 : decode cX7_isOn 50 = .ok (.iload_n 2, 1) := by decide +kernel
theorem dX7_isOn_51 : decode cX7_isOn 51 = .ok (.aload_n 0, 1) := by decide +kernel
theorem dX7_isOn_52 : decode cX7_isOn 52 = .ok (.getfield 21, 3) := by decide +kernel
theorem dX7_isOn_55 : decode cX7_isOn 55 = .ok (.iload 4, 2) := by decide +kernel
theorem dX7_isOn_57 : decode cX7_isOn 57 = .ok (.iaload, 1) := by decide +kernel
theorem dX7_isOn_58 : decode cX7_isOn 58 = .ok (.if_icmp .le 5, 3) := by decide +kernel
theorem dX7_isOn_61 : decode cX7_isOn 61 = .ok (.iconst 0, 1) := by decide +kernel
theorem dX7_isOn_62 : decode cX7_isOn 62 = .ok (.ireturn, 1) := by decide +kernel
theorem dX7_isOn_63 : decode cX7_isOn 63 = .ok (.iload_n 3, 1) := by decide +kernel
theorem dX7_isOn_64 : decode cX7_isOn 64 = .ok (.aload_n 0, 1) := by decide +kernel
theorem dX7_isOn_65 : decode cX7_isOn 65 = .ok (.getfield 25, 3) := by decide +kernel
theorem dX7_isOn_68 : decode cX7_isOn 68 = .ok (.iload_n 1, 1) := by decide +kernel
theorem dX7_isOn_69 : decode cX7_isOn 69 = .ok (.iaload, 1) := by decide +kernel
theorem dX7_isOn_70 : decode cX7_isOn 70 = .ok (.if_icmp .ge 14, 3) := by decide +kernel
theorem dX7_isOn_73 : decode cX7_isOn 73 = .ok (.iload_n 3, 1) := by decide +kernel
theorem dX7_isOn_74 : decode cX7_isOn 74 = .ok (.aload_n 0, 1) := by decide +kernel
theorem dX7_isOn_75 : decode cX7_isOn 75 = .ok (.getfield 25, 3) := by decide +kernel
theorem dX7_isOn_78 : decode cX7_isOn 78 = .ok (.iload 4, 2) := by decide +kernel
theorem dX7_isOn_80 : decode cX7_isOn 80 = .ok (.iaload, 1) := by decide +kernel
theorem dX7_isOn_81 : decode cX7_isOn 81 = .ok (.if_icmp .lt 24, 3) := by decide +kernel
theorem dX7_isOn_84 : decode cX7_isOn 84 = .ok (.iload_n 3, 1) := by decide +kernel
theorem dX7_isOn_85 : decode cX7_isOn 85 = .ok (.aload_n 0, 1) := by decide +kernel
theorem dX7_isOn_86 : decode cX7_isOn 86 = .ok (.getfield 25, 3) := by decide +kernel
theorem dX7_isOn_89 : decode cX7_isOn 89 = .ok (.iload_n 1, 1) := by decide +kernel
theorem dX7_isOn_90 : decode cX7_isOn 90 = .ok (.iaload, 1) := by decide +kernel
theorem dX7_isOn_91 : decode cX7_isOn 91 = .ok (.if_icmp .le 16, 3) := by decide +kernel
theorem dX7_isOn_94 : decode cX7_isOn 94 = .ok (.iload_n 3, 1) := by decide +kernel
theorem dX7_isOn_95 : decode cX7_isOn 95 = .ok (.aload_n 0, 1) := by decide +kernel
theorem dX7_isOn_96 : decode cX7_isOn 96 = .ok (.getfield 25, 3) := by decide +kernel
theorem dX7_isOn_99 : decode cX7_isOn 99 = .ok (.iload 4, 2) := by decide +kernel
theorem dX7_isOn_101 : decode cX7_isOn 101 = .ok (.iaload, 1) := by decide +kernel
theorem dX7_isOn_102 : decode cX7_isOn 102 = .ok (.if_icmp .le 5, 3) := by decide +kernel
theorem dX7_isOn_105 : decode cX7_isOn 105 = .ok (.iconst 0, 1) := by decide +kernel
theorem dX7_isOn_106 : decode cX7_isOn 106 = .ok (.ireturn, 1) := by decide +kernel
theorem dX7_isOn_107 : decode cX7_isOn 107 = .ok (.aload_n 0, 1) := by decide +kernel
theorem dX7_isOn_108 : decode cX7_isOn 108 = .ok (.iload_n 1, 1) := by decide +kernel
theorem dX7_isOn_109 : decode cX7_isOn 109 = .ok (.iload_n 2, 1) := by decide +kernel
theorem dX7_isOn_110 : decode cX7_isOn 110 = .ok (.iload_n 3, 1) := by decide +kernel
theorem dX7_isOn_111 : decode cX7_isOn 111 = .ok (.invokevirtual 51, 3) := by decide +kernel
theorem dX7_isOn_114 : decode cX7_isOn 114 = .ok (.ifCond .ne 7, 3) := by decide +kernel
theorem dX7_isOn_117 : decode cX7_isOn 117 = .ok (.iconst 1, 1) := by decide +kernel
theorem dX7_isOn_118 : decode cX7_isOn 118 = .ok (.goto 4, 3) := by decide +kernel
theorem dX7_isOn_121 : decode cX7_isOn 121 = .ok (.iconst 0, 1) := by decide +kernel
theorem dX7_isOn_122 : decode cX7_isOn 122 = .ok (.ireturn, 1) := by decide +kernel
theorem dX7_isOnSet_0 : decode cX7_isOnSet 0 = .ok (.iconst 0, 1) := by decide +kernel
theorem dX7_isOnSet_1 : decode cX7_isOnSet 1 = .ok (.istore_n 3, 1) := by decide +kernel
theorem dX7_isOnSet_2 : decode cX7_isOnSet 2 = .ok (.iload_n 3, 1) := by decide +kernel
theorem dX7_isOnSet_3 : decode cX7_isOnSet 3 = .ok (.aload_n 0, 1) := by decide +kernel
theorem dX7_isOnSet_4 : decode cX7_isOnSet 4 = .ok (.invokevirtual 55, 3) := by decide +kernel
theorem dX7_isOnSet_7 : decode cX7_isOnSet 7 = .ok (.if_icmp .ge 21, 3) := by decide +kernel
theorem dX7_isOnSet_10 : decode cX7_isOnSet 10 = .ok (.aload_n 0, 1) := by decide +kernel
theorem dX7_isOnSet_11 : decode cX7_isOnSet 11 = .ok (.iload_n 3, 1) := by decide +kernel
theorem dX7_isOnSet_12 : decode cX7_isOnSet 12 = .ok (.iload_n 1, 1) := by decide +kernel
theorem dX7_isOnSet_13 : decode cX7_isOnSet 13 = .ok (.iload_n 2, 1) := by decide +kernel
theorem dX7_isOnSet_14 : decode cX7_isOnSet 14 = .ok (.invokevirtual 58, 3) := by decide +kernel
theorem dX7_isOnSet_17 : decode cX7_isOnSet 17 = .ok (.ifCond .eq 5, 3) := by decide +kernel
theorem dX7_isOnSet_20 : decode cX7_isOnSet 20 = .ok (.iconst 1, 1) := by decide +kernel
theorem dX7_isOnSet_21 : decode cX7_isOnSet 21 = .ok (.ireturn, 1) := by decide +kernel
theorem dX7_isOnSet_22 : decode cX7_isOnSet 22 = .ok (.iinc 3 1, 3) := by decide +kernel
theorem dX7_isOnSet_25 : decode cX7_isOnSet 25 = .ok (.goto (-23), 3) := by decide +kernel
theorem dX7_isOnSet_28 : decode cX7_isOnSet 28 = .ok (.iconst 0, 1) := by decide +kernel
theorem dX7_isOnSet_29 : decode cX7_isOnSet 29 = .ok (.ireturn, 1) := by decide +kernel
theorem dX7_isCorner_0 : decode cX7_isCorner 0 = .ok (.aload_n 0, 1) := by decide +kernel
theorem dX7_isCorner_1 : decode cX7_isCorner 1 = .ok (.getfield 21, 3) := by decide +kernel
theorem dX7_isCorner_4 : decode cX7_isCorner 4 = .ok (.iload_n 1, 1) := by decide +kernel
theorem dX7_isCorner_5 : decode cX7_isCorner 5 = .ok (.iaload, 1) := by decide +kernel
theorem dX7_isCorner_6 : decode cX7_isCorner 6 = .ok (.iload_n 2, 1) := by decide +kernel
theorem dX7_isCorner_7 : decode cX7_isCorner 7 = .ok (.if_icmp .ne 17, 3) := by decide +kernel
theorem dX7_isCorner_10 : decode cX7_isCorner 10 = .ok (.aload_n 0, 1) := by decide +kernel
theorem dX7_isCorner_11 : decode cX7_isCorner 11 = .ok (.getfield 25, 3) := by decide +kernel
theorem dX7_isCorner_14 : decode cX7_isCorner 14 = .ok (.iload_n 1, 1) := by decide +kernel
theorem dX7_isCorner_15 : decode cX7_isCorner 15 = .ok (.iaload, 1) := by decide +kernel
theorem dX7_isCorner_16 : decode cX7_isCorner 16 = .ok (.iload_n 3, 1) := by decide +kernel
theorem dX7_isCorner_17 : decode cX7_isCorner 17 = .ok (.if_icmp .ne 7, 3) := by decide +kernel
theorem dX7_isCorner_20 : decode cX7_isCorner 20 = .ok (.iconst 1, 1) := by decide +kernel
theorem dX7_isCorner_21 : decode cX7_isCorner 21 = .ok (.goto 4, 3) := by decide +kernel
theorem dX7_isCorner_24 : decode cX7_isCorner 24 = .ok (.iconst 0, 1) := by decide +kernel
theorem dX7_isCorner_25 : decode cX7_isCorner 25 = .ok (.ireturn, 1) := by decide +kernel
theorem dX7_isAlike_0 : decode cX7_isAlike 0 = .ok (.aload_n 1, 1) := by decide +kernel
theorem dX7_isAlike_1 : decode cX7_isAlike 1 = .ok (.ifnull 14, 3) := by decide +kernel
theorem dX7_isAlike_4 : decode cX7_isAlike 4 = .ok (.aload_n 1, 1) := by decide +kernel
theorem dX7_isAlike_5 : decode cX7_isAlike 5 = .ok (.getfield 9, 3) := by decide +kernel
theorem dX7_isAlike_8 : decode cX7_isAlike 8 = .ok (.aload_n 0, 1) := by decide +kernel
theorem dX7_isAlike_9 : decode cX7_isAlike 9 = .ok (.getfield 9, 3) := by decide +kernel
theorem dX7_isAlike_12 : decode cX7_isAlike 12 = .ok (.if_icmp .eq 5, 3) := by decide +kernel
theorem dX7_isAlike_15 : decode cX7_isAlike 15 = .ok (.iconst 0, 1) := by decide +kernel
theorem dX7_isAlike_16 : decode cX7_isAlike 16 = .ok (.ireturn, 1) := by decide +kernel
theorem dX7_isAlike_17 : decode cX7_isAlike 17 = .ok (.iconst 0, 1) := by decide +kernel
theorem dX7_isAlike_18 : decode cX7_isAlike 18 = .ok (.istore_n 2, 1) := by decide +kernel
theorem dX7_isAlike_19 : decode cX7_isAlike 19 = .ok (.iload_n 2, 1) := by decide +kernel
theorem dX7_isAlike_20 : decode cX7_isAlike 20 = .ok (.aload_n 0, 1) := by decide +kernel
theorem dX7_isAlike_21 : decode cX7_isAlike 21 = .ok (.getfield 9, 3) := by decide +kernel
theorem dX7_isAlike_24 : decode cX7_isAlike 24 = .ok (.if_icmp .ge 31, 3) := by decide +kernel
theorem dX7_isAlike_27 : decode cX7_isAlike 27 = .ok (.aload_n 0, 1) := by decide +kernel
theorem dX7_isAlike_28 : decode cX7_isAlike 28 = .ok (.iload_n 2, 1) := by decide +kernel
theorem dX7_isAlike_29 : decode cX7_isAlike 29 = .ok (.aload_n 1, 1) := by decide +kernel
theorem dX7_isAlike_30 : decode cX7_isAlike 30 = .ok (.getfield 21, 3) := by decide +kernel
theorem dX7_isAlike_33 : decode cX7_isAlike 33 = .ok (.iload_n 2, 1) := by decide +kernel
theorem dX7_isAlike_34 : decode cX7_isAlike 34 = .ok (.iaload, 1) := by decide +kernel
theorem dX7_isAlike_35 : decode cX7_isAlike 35 = .ok (.aload_n 1, 1) := by decide +kernel
theorem dX7_isAlike_36 : decode cX7_isAlike 36 = .ok (.getfield 25, 3) := by decide +kernel
theorem dX7_isAlike_39 : decode cX7_isAlike 39 = .ok (.iload_n 2, 1) := by decide +kernel
theorem dX7_isAlike_40 : decode cX7_isAlike 40 = .ok (.iaload, 1) := by decide +kernel
theorem dX7_isAlike_41 : decode cX7_isAlike 41 = .ok (.invokevirtual 62, 3) := by decide +kernel
theorem dX7_isAlike_44 : decode cX7_isAlike 44 = .ok (.ifCond .ne 5, 3) := by decide +kernel
theorem dX7_isAlike_47 : decode cX7_isAlike 47 = .ok (.iconst 0, 1) := by decide +kernel
theorem dX7_isAlike_48 : decode cX7_isAlike 48 = .ok (.ireturn, 1) := by decide +kernel
theorem dX7_isAlike_49 : decode cX7_isAlike 49 = .ok (.iinc 2 1, 3) := by decide +kernel
theorem dX7_isAlike_52 : decode cX7_isAlike 52 = .ok (.goto (-33), 3) := by decide +kernel
theorem dX7_isAlike_55 : decode cX7_isAlike 55 = .ok (.iconst 1, 1) := by decide +kernel
theorem dX7_isAlike_56 : decode cX7_isAlike 56 = .ok (.ireturn, 1) := by decide +kernel
theorem dX7_touches_0 : decode cX7_touches 0 = .ok (.aload_n 0, 1) := by decide +kernel
theorem dX7_touches_1 : decode cX7_touches 1 = .ok (.invokevirtual 55, 3) := by decide +kernel
theorem dX7_touches_4 : decode cX7_touches 4 = .ok (.istore_n 2, 1) := by decide +kernel
theorem dX7_touches_5 : decode cX7_touches 5 = .ok (.aload_n 1, 1) := by decide +kernel
theorem dX7_touches_6 : decode cX7_touches 6 = .ok (.invokevirtual 55, 3) := by decide +kernel
theorem dX7_touches_9 : decode cX7_touches 9 = .ok (.istore_n 3, 1) := by decide +kernel
theorem dX7_touches_10 : decode cX7_touches 10 = .ok (.iconst 0, 1) := by decide +kernel
theorem dX7_touches_11 : decode cX7_touches 11 = .ok (.istore 4, 2) := by decide +kernel
theorem dX7_touches_13 : decode cX7_touches 13 = .ok (.iload 4, 2) := by decide +kernel
theorem dX7_touches_15 : decode cX7_touches 15 = .ok (.iload_n 2, 1) := by decide +kernel
theorem dX7_touches_16 : decode cX7_touches 16 = .ok (.if_icmp .ge 38, 3) := by decide +kernel
theorem dX7_touches_19 : decode cX7_touches 19 = .ok (.iconst 0, 1) := by decide +kernel
theorem dX7_touches_20 : decode cX7_touches 20 = .ok (.istore 5, 2) := by decide +kernel
theorem dX7_touches_22 : decode cX7_touches 22 = .ok (.iload 5, 2) := by decide +kernel
theorem dX7_touches_24 : decode cX7_touches 24 = .ok (.iload_n 3, 1) := by decide +kernel
theorem dX7_touches_25 : decode cX7_touches 25 = .ok (.if_icmp .ge 23, 3) := by decide +kernel
theorem dX7_touches_28 : decode cX7_touches 28 = .ok (.aload_n 0, 1) := by decide +kernel
theorem dX7_touches_29 : decode cX7_touches 29 = .ok (.iload 4, 2) := by decide +kernel
theorem dX7_touches_31 : decode cX7_touches 31 = .ok (.aload_n 1, 1) := by decide +kernel
theorem dX7_touches_32 : decode cX7_touches 32 = .ok (.iload 5, 2) := by decide +kernel
theorem dX7_touches_34 : decode cX7_touches 34 = .ok (.invokevirtual 65, 3) := by decide +kernel
theorem dX7_touches_37 : decode cX7_touches 37 = .ok (.ifCond .eq 5, 3) := by decide +kernel
theorem dX7_touches_40 : decode cX7_touches 40 = .ok (.iconst 1, 1) := by decide +kernel
theorem dX7_touches_41 : decode cX7_touches 41 = .ok (.ireturn, 1) := by decide +kernel
theorem dX7_touches_42 : decode cX7_touches 42 = .ok (.iinc 5 1, 3) := by decide +kernel
theorem dX7_touches_45 : decode cX7_touches 45 = .ok (.goto (-23), 3) := by decide +kernel
theorem dX7_touches_48 : decode cX7_touches 48 = .ok (.iinc 4 1, 3) := by decide +kernel
theorem dX7_touches_51 : decode cX7_touches 51 = .ok (.goto (-38), 3) := by decide +kernel
theorem dX7_touches_54 : decode cX7_touches 54 = .ok (.iconst 0, 1) := by decide +kernel
theorem dX7_touches_55 : decode cX7_touches 55 = .ok (.ireturn, 1) := by decide +kernel
theorem dX7_partsMeet_0 : decode cX7_partsMeet 0 = .ok (.iload_n 1, 1) := by decide +kernel
theorem dX7_partsMeet_1 : decode cX7_partsMeet 1 = .ok (.iconst 1, 1) := by decide +kernel
theorem dX7_partsMeet_2 : decode cX7_partsMeet 2 = .ok (.iadd, 1) := by decide +kernel
theorem dX7_partsMeet_3 : decode cX7_partsMeet 3 = .ok (.aload_n 0, 1) := by decide +kernel
theorem dX7_partsMeet_4 : decode cX7_partsMeet 4 = .ok (.getfield 9, 3) := by decide +kernel
theorem dX7_partsMeet_7 : decode cX7_partsMeet 7 = .ok (.if_icmp .ge 9, 3) := by decide +kernel
theorem dX7_partsMeet_10 : decode cX7_partsMeet 10 = .ok (.iload_n 1, 1) := by decide +kernel
theorem dX7_partsMeet_11 : decode cX7_partsMeet 11 = .ok (.iconst 1, 1) := by decide +kernel
theorem dX7_partsMeet_12 : decode cX7_partsMeet 12 = .ok (.iadd, 1) := by decide +kernel
theorem dX7_partsMeet_13 : decode cX7_partsMeet 13 = .ok (.goto 4, 3) := by decide +kernel
theorem dX7_partsMeet_16 : decode cX7_partsMeet 16 = .ok (.iconst 0, 1) := by decide +kernel
theorem dX7_partsMeet_17 : decode cX7_partsMeet 17 = .ok (.istore 4, 2) := by decide +kernel
theorem dX7_partsMeet_19 : decode cX7_partsMeet 19 = .ok (.iload_n 3, 1) := by decide +kernel
theorem dX7_partsMeet_20 : decode cX7_partsMeet 20 = .ok (.iconst 1, 1) := by decide +kernel
theorem dX7_partsMeet_21 : decode cX7_partsMeet 21 = .ok (.iadd, 1) := by decide +kernel
theorem dX7_partsMeet_22 : decode cX7_partsMeet 22 = .ok (.aload_n 2, 1) := by decide +kernel
theorem dX7_partsMeet_23 : decode cX7_partsMeet 23 = .ok (.getfield 9, 3) := by decide +kernel
theorem dX7_partsMeet_26 : decode cX7_partsMeet 26 = .ok (.if_icmp .ge 9, 3) := by decide +kernel
theorem dX7_partsMeet_29 : decode cX7_partsMeet 29 = .ok (.iload_n 3, 1) := by decide +kernel
theorem dX7_partsMeet_30 : decode cX7_partsMeet 30 = .ok (.iconst 1, 1) := by decide +kernel
theorem dX7_partsMeet_31 : decode cX7_partsMeet 31 = .ok (.iadd, 1) := by decide +kernel
theorem dX7_partsMeet_32 : decode cX7_partsMeet 32 = .ok (.goto 4, 3) := by decide +kernel
theorem dX7_partsMeet_35 : decode cX7_partsMeet 35 = .ok (.iconst 0, 1) := by decide +kernel
theorem dX7_partsMeet_36 : decode cX7_partsMeet 36 = .ok (.istore 5, 2) := by decide +kernel
theorem dX7_partsMeet_38 : decode cX7_partsMeet 38 = .ok (.aload_n 0, 1) := by decide +kernel
theorem dX7_partsMeet_39 : decode cX7_partsMeet 39 = .ok (.getfield 21, 3) := by decide +kernel
theorem dX7_partsMeet_42 : decode cX7_partsMeet 42 = .ok (.iload_n 1, 1) := by decide +kernel
theorem dX7_partsMeet_43 : decode cX7_partsMeet 43 = .ok (.iaload, 1) := by decide +kernel
theorem dX7_partsMeet_44 : decode cX7_partsMeet 44 = .ok (.istore 6, 2) := by decide +kernel
theorem dX7_partsMeet_46 : decode cX7_partsMeet 46 = .ok (.aload_n 0, 1) := by decide +kernel
theorem dX7_partsMeet_47 : decode cX7_partsMeet 47 = .ok (.getfield 25, 3) := by decide +kernel
theorem dX7_partsMeet_50 : decode cX7_partsMeet 50 = .ok (.iload_n 1, 1) := by decide +kernel
theorem dX7_partsMeet_51 : decode cX7_partsMeet 51 = .ok (.iaload, 1) := by decide +kernel
theorem dX7_partsMeet_52 : decode cX7_partsMeet 52 = .ok (.istore 7, 2) := by decide +kernel
theorem dX7_partsMeet_54 : decode cX7_partsMeet 54 = .ok (.aload_n 0, 1) := by decide +kernel
theorem dX7_partsMeet_55 : decode cX7_partsMeet 55 = .ok (.getfield 21, 3) := by decide +kernel
theorem dX7_partsMeet_58 : decode cX7_partsMeet 58 = .ok (.iload 4, 2) := by decide +kernel
theorem dX7_partsMeet_60 : decode cX7_partsMeet 60 = .ok (.iaload, 1) := by decide +kernel
theorem dX7_partsMeet_61 : decode cX7_partsMeet 61 = .ok (.istore 8, 2) := by decide +kernel
theorem dX7_partsMeet_63 : decode cX7_partsMeet 63 = .ok (.aload_n 0, 1) := by decide +kernel
theorem dX7_partsMeet_64 : decode cX7_partsMeet 64 = .ok (.getfield 25, 3) := by decide +kernel
theorem dX7_partsMeet_67 : decode cX7_partsMeet 67 = .ok (.iload 4, 2) := by decide +kernel
theorem dX7_partsMeet_69 : decode cX7_partsMeet 69 = .ok (.iaload, 1) := by decide +kernel
theorem dX7_partsMeet_70 : decode cX7_partsMeet 70 = .ok (.istore 9, 2) := by decide +kernel
theorem dX7_partsMeet_72 : decode cX7_partsMeet 72 = .ok (.aload_n 2, 1) := by decide +kernel
theorem dX7_partsMeet_73 : decode cX7_partsMeet 73 = .ok (.getfield 21, 3) := by decide +kernel
theorem dX7_partsMeet_76 : decode cX7_partsMeet 76 = .ok (.iload_n 3, 1) := by decide +kernel
theorem dX7_partsMeet_77 : decode cX7_partsMeet 77 = .ok (.iaload, 1) := by decide +kernel
theorem dX7_partsMeet_78 : decode cX7_partsMeet 78 = .ok (.istore 10, 2) := by decide +kernel
theorem dX7_partsMeet_80 : decode cX7_partsMeet 80 = .ok (.aload_n 2, 1) := by decide +kernel
theorem dX7_partsMeet_81 : decode cX7_partsMeet 81 = .ok (.getfield 25, 3) := by decide +kernel
theorem dX7_partsMeet_84 : decode cX7_partsMeet 84 = .ok (.iload_n 3, 1) := by decide +kernel
theorem dX7_partsMeet_85 : decode cX7_partsMeet 85 = .ok (.iaload, 1) := by decide +kernel
theorem dX7_partsMeet_86 : decode cX7_partsMeet 86 = .ok (.istore 11, 2) := by decide +kernel
theorem dX7_partsMeet_88 : decode cX7_partsMeet 88 = .ok (.aload_n 2, 1) := by decide +kernel
theorem dX7_partsMeet_89 : decode cX7_partsMeet 89 = .ok (.getfield 21, 3) := by decide +kernel
theorem dX7_partsMeet_92 : decode cX7_partsMeet 92 = .ok (.iload 5, 2) := by decide +kernel
theorem dX7_partsMeet_94 : decode cX7_partsMeet 94 = .ok (.iaload, 1) := by decide +kernel
theorem dX7_partsMeet_95 : decode cX7_partsMeet 95 = .ok (.istore 12, 2) := by decide +kernel
theorem dX7_partsMeet_97 : decode cX7_partsMeet 97 = .ok (.aload_n 2, 1) := by decide +kernel
theorem dX7_partsMeet_98 : decode cX7_partsMeet 98 = .ok (.getfield 25, 3) := by decide +kernel
theorem dX7_partsMeet_101 : decode cX7_partsMeet 101 = .ok (.iload 5, 2) := by decide +kernel
theorem dX7_partsMeet_103 : decode cX7_partsMeet 103 = .ok (.iaload, 1) := by decide +kernel
theorem dX7_partsMeet_104 : decode cX7_partsMeet 104 = .ok (.istore 13, 2) := by decide +kernel
theorem dX7_partsMeet_106 : decode cX7_partsMeet 106 = .ok (.iload 6, 2) := by decide +kernel
theorem dX7_partsMeet_108 : decode cX7_partsMeet 108 = .ok (.iload 10, 2) := by decide +kernel
theorem dX7_partsMeet_110 : decode cX7_partsMeet 110 = .ok (.if_icmp .ge 24, 3) := by decide +kernel
theorem dX7_partsMeet_113 : decode cX7_partsMeet 113 = .ok (.iload 8, 2) := by decide +kernel
theorem dX7_partsMeet_115 : decode cX7_partsMeet 115 = .ok (.iload 10, 2) := by decide +kernel
theorem dX7_partsMeet_117 : decode cX7_partsMeet 117 = .ok (.if_icmp .ge 17, 3) := by decide +kernel
theorem dX7_partsMeet_120 : decode cX7_partsMeet 120 = .ok (.iload 6, 2) := by decide +kernel
theorem dX7_partsMeet_122 : decode cX7_partsMeet 122 = .ok (.iload 12, 2) := by decide +kernel
theorem dX7_partsMeet_124 : decode cX7_partsMeet 124 = .ok (.if_icmp .ge 10, 3) := by decide +kernel
theorem dX7_partsMeet_127 : decode cX7_partsMeet 127 = .ok (.iload 8, 2) := by decide +kernel
theorem dX7_partsMeet_129 : decode cX7_partsMeet 129 = .ok (.iload 12, 2) := by decide +kernel
theorem dX7_partsMeet_131 : decode cX7_partsMeet 131 = .ok (.if_icmp .lt 31, 3) := by decide +kernel
theorem dX7_partsMeet_134 : decode cX7_partsMeet 134 = .ok (.iload 6, 2) := by decide +kernel
theorem dX7_partsMeet_136 : decode cX7_partsMeet 136 = .ok (.iload 10, 2) := by decide +kernel
theorem dX7_partsMeet_138 : decode cX7_partsMeet 138 = .ok (.if_icmp .le 26, 3) := by decide +kernel
theorem dX7_partsMeet_141 : decode cX7_partsMeet 141 = .ok (.iload 8, 2) := by decide +kernel
theorem dX7_partsMeet_143 : decode cX7_partsMeet 143 = .ok (.iload 10, 2) := by decide +kernel
theorem dX7_partsMeet_145 : decode cX7_partsMeet 145 = .ok (.if_icmp .le 19, 3) := by decide +kernel
theorem dX7_partsMeet_148 : decode cX7_partsMeet 148 = .ok (.iload 6, 2) := by decide +kernel
theorem dX7_partsMeet_150 : decode cX7_partsMeet 150 = .ok (.iload 12, 2) := by decide +kernel
theorem dX7_partsMeet_152 : decode cX7_partsMeet 152 = .ok (.if_icmp .le 12, 3) := by decide +kernel
theorem dX7_partsMeet_155 : decode cX7_partsMeet 155 = .ok (.iload 8, 2) := by decide +kernel
theorem dX7_partsMeet_157 : decode cX7_partsMeet 157 = .ok (.iload 12, 2) := by decide +kernel
theorem dX7_partsMeet_159 : decode cX7_partsMeet 159 = .ok (.if_icmp .le 5, 3) := by decide +kernel
theorem dX7_partsMeet_162 : decode cX7_partsMeet 162 = .ok (.iconst 0, 1) := by decide +kernel
theorem dX7_partsMeet_163 : decode cX7_partsMeet 163 = .ok (.ireturn, 1) := by decide +kernel
theorem dX7_partsMeet_164 : decode cX7_partsMeet 164 = .ok (.iload 7, 2) := by decide +kernel
theorem dX7_partsMeet_166 : decode cX7_partsMeet 166 = .ok (.iload 11, 2) := by decide +kernel
theorem dX7_partsMeet_168 : decode cX7_partsMeet 168 = .ok (.if_icmp .ge 24, 3) := by decide +kernel
theorem dX7_partsMeet_171 : decode cX7_partsMeet 171 = .ok (.iload 9, 2) := by decide +kernel
theorem dX7_partsMeet_173 : decode cX7_partsMeet 173 = .ok (.iload 11, 2) := by decide +kernel
theorem dX7_partsMeet_175 : decode cX7_partsMeet 175 = .ok (.if_icmp .ge 17, 3) := by decide +kernel
theorem dX7_partsMeet_178 : decode cX7_partsMeet 178 = .ok (.iload 7, 2) := by decide +kernel
theorem dX7_partsMeet_180 : decode cX7_partsMeet 180 = .ok (.iload 13, 2) := by decide +kernel
theorem dX7_partsMeet_182 : decode cX7_partsMeet 182 = .ok (.if_icmp .ge 10, 3) := by decide +kernel
theorem dX7_partsMeet_185 : decode cX7_partsMeet 185 = .ok (.iload 9, 2) := by decide +kernel
theorem dX7_partsMeet_187 : decode cX7_partsMeet 187 = .ok (.iload 13, 2) := by decide +kernel
theorem dX7_partsMeet_189 : decode cX7_partsMeet 189 = .ok (.if_icmp .lt 31, 3) := by decide +kernel
theorem dX7_partsMeet_192 : decode cX7_partsMeet 192 = .ok (.iload 7, 2) := by decide +kernel
theorem dX7_partsMeet_194 : decode cX7_partsMeet 194 = .ok (.iload 11, 2) := by decide +kernel
theorem dX7_partsMeet_196 : decode cX7_partsMeet 196 = .ok (.if_icmp .le 26, 3) := by decide +kernel
theorem dX7_partsMeet_199 : decode cX7_partsMeet 199 = .ok (.iload 9, 2) := by decide +kernel
theorem dX7_partsMeet_201 : decode cX7_partsMeet 201 = .ok (.iload 11, 2) := by decide +kernel
theorem dX7_partsMeet_203 : decode cX7_partsMeet 203 = .ok (.if_icmp .le 19, 3) := by decide +kernel
theorem dX7_partsMeet_206 : decode cX7_partsMeet 206 = .ok (.iload 7, 2) := by decide +kernel
theorem dX7_partsMeet_208 : decode cX7_partsMeet 208 = .ok (.iload 13, 2) := by decide +kernel
theorem dX7_partsMeet_210 : decode cX7_partsMeet 210 = .ok (.if_icmp .le 12, 3) := by decide +kernel
theorem dX7_partsMeet_213 : decode cX7_partsMeet 213 = .ok (.iload 9, 2) := by decide +kernel
theorem dX7_partsMeet_215 : decode cX7_partsMeet 215 = .ok (.iload 13, 2) := by decide +kernel
theorem dX7_partsMeet_217 : decode cX7_partsMeet 217 = .ok (.if_icmp .le 5, 3) := by decide +kernel
theorem dX7_partsMeet_220 : decode cX7_partsMeet 220 = .ok (.iconst 0, 1) := by decide +kernel
theorem dX7_partsMeet_221 : decode cX7_partsMeet 221 = .ok (.ireturn, 1) := by decide +kernel
theorem dX7_partsMeet_222 : decode cX7_partsMeet 222 = .ok (.iload 8, 2) := by decide +kernel
theorem dX7_partsMeet_224 : decode cX7_partsMeet 224 = .ok (.iload 6, 2) := by decide +kernel
theorem dX7_partsMeet_226 : decode cX7_partsMeet 226 = .ok (.isub, 1) := by decide +kernel
theorem dX7_partsMeet_227 : decode cX7_partsMeet 227 = .ok (.iload 11, 2) := by decide +kernel
theorem dX7_partsMeet_229 : decode cX7_partsMeet 229 = .ok (.iload 7, 2) := by decide +kernel
theorem dX7_partsMeet_231 : decode cX7_partsMeet 231 = .ok (.isub, 1) := by decide +kernel
theorem dX7_partsMeet_232 : decode cX7_partsMeet 232 = .ok (.imul, 1) := by decide +kernel
theorem dX7_partsMeet_233 : decode cX7_partsMeet 233 = .ok (.iload 9, 2) := by decide +kernel
theorem dX7_partsMeet_235 : decode cX7_partsMeet 235 = .ok (.iload 7, 2) := by decide +kernel
theorem dX7_partsMeet_237 : decode cX7_partsMeet 237 = .ok (.isub, 1) := by decide +kernel
theorem dX7_partsMeet_238 : decode cX7_partsMeet 238 = .ok (.iload 10, 2) := by decide +kernel
theorem dX7_partsMeet_240 : decode cX7_partsMeet 240 = .ok (.iload 6, 2) := by decide +kernel
theorem dX7_partsMeet_242 : decode cX7_partsMeet 242 = .ok (.isub, 1) := by decide +kernel
theorem dX7_partsMeet_243 : decode cX7_partsMeet 243 = .ok (.imul, 1) := by decide +kernel
theorem dX7_partsMeet_244 : decode cX7_partsMeet 244 = .ok (.isub, 1) := by decide +kernel
theorem dX7_partsMeet_245 : decode cX7_partsMeet 245 = .ok (.istore 14, 2) := by decide +kernel
theorem dX7_partsMeet_247 : decode cX7_partsMeet 247 = .ok (.iload 8, 2) := by decide +kernel
theorem dX7_partsMeet_249 : decode cX7_partsMeet 249 = .ok (.iload 6, 2) := by decide +kernel
theorem dX7_partsMeet_251 : decode cX7_partsMeet 251 = .ok (.isub, 1) := by decide +kernel
theorem dX7_partsMeet_252 : decode cX7_partsMeet 252 = .ok (.iload 13, 2) := by decide +kernel
theorem dX7_partsMeet_254 : decode cX7_partsMeet 254 = .ok (.iload 7, 2) := by decide +kernel
theorem dX7_partsMeet_256 : decode cX7_partsMeet 256 = .ok (.isub, 1) := by decide +kernel
theorem dX7_partsMeet_257 : decode cX7_partsMeet 257 = .ok (.imul, 1) := by decide +kernel
theorem dX7_partsMeet_258 : decode cX7_partsMeet 258 = .ok (.iload 9, 2) := by decide +kernel
theorem dX7_partsMeet_260 : decode cX7_partsMeet 260 = .ok (.iload 7, 2) := by decide +kernel
theorem dX7_partsMeet_262 : decode cX7_partsMeet 262 = .ok (.isub, 1) := by decide +kernel
theorem dX7_partsMeet_263 : decode cX7_partsMeet 263 = .ok (.iload 12, 2) := by decide +kernel
theorem dX7_partsMeet_265 : decode cX7_partsMeet 265 = .ok (.iload 6, 2) := by decide +kernel
theorem dX7_partsMeet_267 : decode cX7_partsMeet 267 = .ok (.isub, 1) := by decide +kernel
theorem dX7_partsMeet_268 : decode cX7_partsMeet 268 = .ok (.imul, 1) := by decide +kernel
theorem dX7_partsMeet_269 : decode cX7_partsMeet 269 = .ok (.isub, 1) := by decide +kernel
theorem dX7_partsMeet_270 : decode cX7_partsMeet 270 = .ok (.istore 15, 2) := by decide +kernel
theorem dX7_partsMeet_272 : decode cX7_partsMeet 272 = .ok (.iload 14, 2) := by decide +kernel
theorem dX7_partsMeet_274 : decode cX7_partsMeet 274 = .ok (.ifCond .le 8, 3) := by decide +kernel
theorem dX7_partsMeet_277 : decode cX7_partsMeet 277 = .ok (.iload 15, 2) := by decide +kernel
theorem dX7_partsMeet_279 : decode cX7_partsMeet 279 = .ok (.ifCond .gt 13, 3) := by decide +kernel
theorem dX7_partsMeet_282 : decode cX7_partsMeet 282 = .ok (.iload 14, 2) := by decide +kernel
theorem dX7_partsMeet_284 : decode cX7_partsMeet 284 = .ok (.ifCond .ge 10, 3) := by decide +kernel
theorem dX7_partsMeet_287 : decode cX7_partsMeet 287 = .ok (.iload 15, 2) := by decide +kernel
theorem dX7_partsMeet_289 : decode cX7_partsMeet 289 = .ok (.ifCond .ge 5, 3) := by decide +kernel
theorem dX7_partsMeet_292 : decode cX7_partsMeet 292 = .ok (.iconst 0, 1) := by decide +kernel
theorem dX7_partsMeet_293 : decode cX7_partsMeet 293 = .ok (.ireturn, 1) := by decide +kernel
theorem dX7_partsMeet_294 : decode cX7_partsMeet 294 = .ok (.iload 12, 2) := by decide +kernel
theorem dX7_partsMeet_296 : decode cX7_partsMeet 296 = .ok (.iload 10, 2) := by decide +kernel
theorem dX7_partsMeet_298 : decode cX7_partsMeet 298 = .ok (.isub, 1) := by decide +kernel
theorem dX7_partsMeet_299 : decode cX7_partsMeet 299 = .ok (.iload 7, 2) := by decide +kernel
theorem dX7_partsMeet_301 : decode cX7_partsMeet 301 = .ok (.iload 11, 2) := by decide +kernel
theorem dX7_partsMeet_303 : decode cX7_partsMeet 303 = .ok (.isub, 1) := by decide +kernel
theorem dX7_partsMeet_304 : decode cX7_partsMeet 304 = .ok (.imul, 1) := by decide +kernel
theorem dX7_partsMeet_305 : decode cX7_partsMeet 305 = .ok (.iload 13, 2) := by decide +kernel
theorem dX7_partsMeet_307 : decode cX7_partsMeet 307 = .ok (.iload 11, 2) := by decide +kernel
theorem dX7_partsMeet_309 : decode cX7_partsMeet 309 = .ok (.isub, 1) := by decide +kernel
theorem dX7_partsMeet_310 : decode cX7_partsMeet 310 = .ok (.iload 6, 2) := by decide +kernel
theorem dX7_partsMeet_312 : decode cX7_partsMeet 312 = .ok (.iload 10, 2) := by decide +kernel
theorem dX7_partsMeet_314 : decode cX7_partsMeet 314 = .ok (.isub, 1) := by decide +kernel
theorem dX7_partsMeet_315 : decode cX7_partsMeet 315 = .ok (.imul, 1) := by decide +kernel
theorem dX7_partsMeet_316 : decode cX7_partsMeet 316 = .ok (.isub, 1) := by decide +kernel
theorem dX7_partsMeet_317 : decode cX7_partsMeet 317 = .ok (.istore 16, 2) := by decide +kernel
theorem dX7_partsMeet_319 : decode cX7_partsMeet 319 = .ok (.iload 12, 2) := by decide +kernel
theorem dX7_partsMeet_321 : decode cX7_partsMeet 321 = .ok (.iload 10, 2) := by decide +kernel
theorem dX7_partsMeet_323 : decode cX7_partsMeet 323 = .ok (.isub, 1) := by decide +kernel
theorem dX7_partsMeet_324 : decode cX7_partsMeet 324 = .ok (.iload 9, 2) := by decide +kernel
theorem dX7_partsMeet_326 : decode cX7_partsMeet 326 = .ok (.iload 11, 2) := by decide +kernel
theorem dX7_partsMeet_328 : decode cX7_partsMeet 328 = .ok (.isub, 1) := by decide +kernel
theorem dX7_partsMeet_329 : decode cX7_partsMeet 329 = .ok (.imul, 1) := by decide +kernel
theorem dX7_partsMeet_330 : decode cX7_partsMeet 330 = .ok (.iload 13, 2) := by decide +kernel
theorem dX7_partsMeet_332 : decode cX7_partsMeet 332 = .ok (.iload 11, 2) := by decide +kernel
theorem dX7_partsMeet_334 : decode cX7_partsMeet 334 = .ok (.isub, 1) := by decide +kernel
theorem dX7_partsMeet_335 : decode cX7_partsMeet 335 = .ok (.iload 8, 2) := by decide +kernel
theorem dX7_partsMeet_337 : decode cX7_partsMeet 337 = .ok (.iload 10, 2) := by decide +kernel
theorem dX7_partsMeet_339 : decode cX7_partsMeet 339 = .ok (.isub, 1) := by decide +kernel
theorem dX7_partsMeet_340 : decode cX7_partsMeet 340 = .ok (.imul, 1) := by decide +kernel
theorem dX7_partsMeet_341 : decode cX7_partsMeet 341 = .ok (.isub, 1) := by decide +kernel
theorem dX7_partsMeet_342 : decode cX7_partsMeet 342 = .ok (.istore 17, 2) := by decide +kernel
theorem dX7_partsMeet_344 : decode cX7_partsMeet 344 = .ok (.iload 16, 2) := by decide +kernel
theorem dX7_partsMeet_346 : decode cX7_partsMeet 346 = .ok (.ifCond .le 8, 3) := by decide +kernel
theorem dX7_partsMeet_349 : decode cX7_partsMeet 349 = .ok (.iload 17, 2) := by decide +kernel
theorem dX7_partsMeet_351 : decode cX7_partsMeet 351 = .ok (.ifCond .gt 17, 3) := by decide +kernel
theorem dX7_partsMeet_354 : decode cX7_partsMeet 354 = .ok (.iload 16, 2) := by decide +kernel
theorem dX7_partsMeet_356 : decode cX7_partsMeet 356 = .ok (.ifCond .ge 8, 3) := by decide +kernel
theorem dX7_partsMeet_359 : decode cX7_partsMeet 359 = .ok (.iload 17, 2) := by decide +kernel
theorem dX7_partsMeet_361 : decode cX7_partsMeet 361 = .ok (.ifCond .lt 7, 3) := by decide +kernel
theorem dX7_partsMeet_364 : decode cX7_partsMeet 364 = .ok (.iconst 1, 1) := by decide +kernel
theorem dX7_partsMeet_365 : decode cX7_partsMeet 365 = .ok (.goto 4, 3) := by decide +kernel
theorem dX7_partsMeet_368 : decode cX7_partsMeet 368 = .ok (.iconst 0, 1) := by decide +kernel
theorem dX7_partsMeet_369 : decode cX7_partsMeet 369 = .ok (.ireturn, 1) := by decide +kernel
theorem dX7_where_0 : decode cX7_where 0 = .ok (.iconst 0, 1) := by decide +kernel
theorem dX7_where_1 : decode cX7_where 1 = .ok (.istore_n 3, 1) := by decide +kernel
theorem dX7_where_2 : decode cX7_where 2 = .ok (.iconst 0, 1) := by decide +kernel
theorem dX7_where_3 : decode cX7_where 3 = .ok (.istore 4, 2) := by decide +kernel
theorem dX7_where_5 : decode cX7_where 5 = .ok (.iload 4, 2) := by decide +kernel
theorem dX7_where_7 : decode cX7_where 7 = .ok (.aload_n 0, 1) := by decide +kernel
theorem dX7_where_8 : decode cX7_where 8 = .ok (.getfield 9, 3) := by decide +kernel
theorem dX7_where_11 : decode cX7_where 11 = .ok (.if_icmp .ge 261, 3) := by decide +kernel
theorem dX7_where_14 : decode cX7_where 14 = .ok (.iload 4, 2) := by decide +kernel
theorem dX7_where_16 : decode cX7_where 16 = .ok (.iconst 1, 1) := by decide +kernel
theorem dX7_where_17 : decode cX7_where 17 = .ok (.iadd, 1) := by decide +kernel
theorem dX7_where_18 : decode cX7_where 18 = .ok (.aload_n 0, 1) := by decide +kernel
theorem dX7_where_19 : decode cX7_where 19 = .ok (.getfield 9, 3) := by decide +kernel
theorem dX7_where_22 : decode cX7_where 22 = .ok (.if_icmp .ge 10, 3) := by decide +kernel
theorem dX7_where_25 : decode cX7_where 25 = .ok (.iload 4, 2) := by decide +kernel
theorem dX7_where_27 : decode cX7_where 27 = .ok (.iconst 1, 1) := by decide +kernel
theorem dX7_where_28 : decode cX7_where 28 = .ok (.iadd, 1) := by decide +kernel
theorem dX7_where_29 : decode cX7_where 29 = .ok (.goto 4, 3) := by decide +kernel
theorem dX7_where_32 : decode cX7_where 32 = .ok (.iconst 0, 1) := by decide +kernel
theorem dX7_where_33 : decode cX7_where 33 = .ok (.istore 5, 2) := by decide +kernel
theorem dX7_where_35 : decode cX7_where 35 = .ok (.aload_n 0, 1) := by decide +kernel
theorem dX7_where_36 : decode cX7_where 36 = .ok (.getfield 25, 3) := by decide +kernel
theorem dX7_where_39 : decode cX7_where 39 = .ok (.iload 4, 2) := by decide +kernel
theorem dX7_where_41 : decode cX7_where 41 = .ok (.iaload, 1) := by decide +kernel
theorem dX7_where_42 : decode cX7_where 42 = .ok (.iload_n 2, 1) := by decide +kernel
theorem dX7_where_43 : decode cX7_where 43 = .ok (.if_icmp .le 14, 3) := by decide +kernel
theorem dX7_where_46 : decode cX7_where 46 = .ok (.aload_n 0, 1) := by decide +kernel
theorem dX7_where_47 : decode cX7_where 47 = .ok (.getfield 25, 3) := by decide +kernel
theorem dX7_where_50 : decode cX7_where 50 = .ok (.iload 5, 2) := by decide +kernel
theorem dX7_where_52 : decode cX7_where 52 = .ok (.iaload, 1) := by decide +kernel
theorem dX7_where_53 : decode cX7_where 53 = .ok (.iload_n 2, 1) := by decide +kernel
theorem dX7_where_54 : decode cX7_where 54 = .ok (.if_icmp .gt 212, 3) := by decide +kernel
theorem dX7_where_57 : decode cX7_where 57 = .ok (.aload_n 0, 1) := by decide +kernel
theorem dX7_where_58 : decode cX7_where 58 = .ok (.getfield 25, 3) := by decide +kernel
theorem dX7_where_61 : decode cX7_where 61 = .ok (.iload 4, 2) := by decide +kernel
theorem dX7_where_63 : decode cX7_where 63 = .ok (.iaload, 1) := by decide +kernel
theorem dX7_where_64 : decode cX7_where 64 = .ok (.iload_n 2, 1) := by decide +kernel
theorem dX7_where_65 : decode cX7_where 65 = .ok (.if_icmp .ge 14, 3) := by decide +kernel
theorem dX7_where_68 : decode cX7_where 68 = .ok (.aload_n 0, 1) := by decide +kernel
theorem dX7_where_69 : decode cX7_where 69 = .ok (.getfield 25, 3) := by decide +kernel
theorem dX7_where_72 : decode cX7_where 72 = .ok (.iload 5, 2) := by decide +kernel
theorem dX7_where_74 : decode cX7_where 74 = .ok (.iaload, 1) := by decide +kernel
theorem dX7_where_75 : decode cX7_where 75 = .ok (.iload_n 2, 1) := by decide +kernel
theorem dX7_where_76 : decode cX7_where 76 = .ok (.if_icmp .lt 190, 3) := by decide +kernel
theorem dX7_where_79 : decode cX7_where 79 = .ok (.aload_n 0, 1) := by decide +kernel
theorem dX7_where_80 : decode cX7_where 80 = .ok (.getfield 21, 3) := by decide +kernel
theorem dX7_where_83 : decode cX7_where 83 = .ok (.iload 4, 2) := by decide +kernel
theorem dX7_where_85 : decode cX7_where 85 = .ok (.iaload, 1) := by decide +kernel
theorem dX7_where_86 : decode cX7_where 86 = .ok (.iload_n 1, 1) := by decide +kernel
theorem dX7_where_87 : decode cX7_where 87 = .ok (.if_icmp .ge 17, 3) := by decide +kernel
theorem dX7_where_90 : decode cX7_where 90 = .ok (.aload_n 0, 1) := by decide +kernel
theorem dX7_where_91 : decode cX7_where 91 = .ok (.getfield 21, 3) := by decide +kernel
theorem dX7_where_94 : decode cX7_where 94 = .ok (.iload 5, 2) := by decide +kernel
theorem dX7_where_96 : decode cX7_where 96 = .ok (.iaload, 1) := by decide +kernel
theorem dX7_where_97 : decode cX7_where 97 = .ok (.iload_n 1, 1) := by decide +kernel
theorem dX7_where_98 : decode cX7_where 98 = .ok (.if_icmp .ge 6, 3) := by decide +kernel
theorem dX7_where_101 : decode cX7_where 101 = .ok (.goto 165, 3) := by decide +kernel
theorem dX7_where_104 : decode cX7_where 104 = .ok (.aload_n 0, 1) := by decide +kernel
theorem dX7_where_105 : decode cX7_where 105 = .ok (.getfield 21, 3) := by decide +kernel
theorem dX7_where_108 : decode cX7_where 108 = .ok (.iload 5, 2) := by decide +kernel
theorem dX7_where_110 : decode cX7_where 110 = .ok (.iaload, 1) := by decide +kernel
theorem dX7_where_111 : decode cX7_where 111 = .ok (.aload_n 0, 1) := by decide +kernel
theorem dX7_where_112 : decode cX7_where 112 = .ok (.getfield 21, 3) := by decide +kernel
theorem dX7_where_115 : decode cX7_where 115 = .ok (.iload 4, 2) := by decide +kernel
theorem dX7_where_117 : decode cX7_where 117 = .ok (.iaload, 1) := by decide +kernel
theorem dX7_where_118 : decode cX7_where 118 = .ok (.isub, 1) := by decide +kernel
theorem dX7_where_119 : decode cX7_where 119 = .ok (.iload_n 2, 1) := by decide +kernel
theorem dX7_where_120 : decode cX7_where 120 = .ok (.aload_n 0, 1) := by decide +kernel
theorem dX7_where_121 : decode cX7_where 121 = .ok (.getfield 25, 3) := by decide +kernel
theorem dX7_where_124 : decode cX7_where 124 = .ok (.iload 4, 2) := by decide +kernel
theorem dX7_where_126 : decode cX7_where 126 = .ok (.iaload, 1) := by decide +kernel
theorem dX7_where_127 : decode cX7_where 127 = .ok (.isub, 1) := by decide +kernel
theorem dX7_where_128 : decode cX7_where 128 = .ok (.imul, 1) := by decide +kernel
theorem dX7_where_129 : decode cX7_where 129 = .ok (.aload_n 0, 1) := by decide +kernel
theorem dX7_where_130 : decode cX7_where 130 = .ok (.getfield 25, 3) := by decide +kernel
theorem dX7_where_133 : decode cX7_where 133 = .ok (.iload 5, 2) := by decide +kernel
theorem dX7_where_135 : decode cX7_where 135 = .ok (.iaload, 1) := by decide +kernel
theorem dX7_where_136 : decode cX7_where 136 = .ok (.aload_n 0, 1) := by decide +kernel
theorem dX7_where_137 : decode cX7_where 137 = .ok (.getfield 25, 3) := by decide +kernel
theorem dX7_where_140 : decode cX7_where 140 = .ok (.iload 4, 2) := by decide +kernel
theorem dX7_where_142 : decode cX7_where 142 = .ok (.iaload, 1) := by decide +kernel
theorem dX7_where_143 : decode cX7_where 143 = .ok (.isub, 1) := by decide +kernel
theorem dX7_where_144 : decode cX7_where 144 = .ok (.iload_n 1, 1) := by decide +kernel
theorem dX7_where_145 : decode cX7_where 145 = .ok (.aload_n 0, 1) := by decide +kernel
theorem dX7_where_146 : decode cX7_where 146 = .ok (.getfield 21, 3) := by decide +kernel
theorem dX7_where_149 : decode cX7_where 149 = .ok (.iload 4, 2) := by decide +kernel
theorem dX7_where_151 : decode cX7_where 151 = .ok (.iaload, 1) := by decide +kernel
theorem dX7_where_152 : decode cX7_where 152 = .ok (.isub, 1) := by decide +kernel
theorem dX7_where_153 : decode cX7_where 153 = .ok (.imul, 1) := by decide +kernel
theorem dX7_where_154 : decode cX7_where 154 = .ok (.isub, 1) := by decide +kernel
theorem dX7_where_155 : decode cX7_where 155 = .ok (.istore 6, 2) := by decide +kernel
theorem dX7_where_157 : decode cX7_where 157 = .ok (.iload 6, 2) := by decide +kernel
theorem dX7_where_159 : decode cX7_where 159 = .ok (.ifCond .ne 27, 3) := by decide +kernel
theorem dX7_where_162 : decode cX7_where 162 = .ok (.aload_n 0, 1) := by decide +kernel
theorem dX7_where_163 : decode cX7_where 163 = .ok (.getfield 21, 3) := by decide +kernel
theorem dX7_where_166 : decode cX7_where 166 = .ok (.iload 4, 2) := by decide +kernel
theorem dX7_where_168 : decode cX7_where 168 = .ok (.iaload, 1) := by decide +kernel
theorem dX7_where_169 : decode cX7_where 169 = .ok (.iload_n 1, 1) := by decide +kernel
theorem dX7_where_170 : decode cX7_where 170 = .ok (.if_icmp .le 14, 3) := by decide +kernel
theorem dX7_where_173 : decode cX7_where 173 = .ok (.aload_n 0, 1) := by decide +kernel
theorem dX7_where_174 : decode cX7_where 174 = .ok (.getfield 21, 3) := by decide +kernel
theorem dX7_where_177 : decode cX7_where 177 = .ok (.iload 5, 2) := by decide +kernel
theorem dX7_where_179 : decode cX7_where 179 = .ok (.iaload, 1) := by decide +kernel
theorem dX7_where_180 : decode cX7_where 180 = .ok (.iload_n 1, 1) := by decide +kernel
theorem dX7_where_181 : decode cX7_where 181 = .ok (.if_icmp .gt 5, 3) := by decide +kernel
theorem dX7_where_184 : decode cX7_where 184 = .ok (.iconst 2, 1) := by decide +kernel
theorem dX7_where_185 : decode cX7_where 185 = .ok (.ireturn, 1) := by decide +kernel
theorem dX7_where_186 : decode cX7_where 186 = .ok (.aload_n 0, 1) := by decide +kernel
theorem dX7_where_187 : decode cX7_where 187 = .ok (.getfield 25, 3) := by decide +kernel
theorem dX7_where_190 : decode cX7_where 190 = .ok (.iload 4, 2) := by decide +kernel
theorem dX7_where_192 : decode cX7_where 192 = .ok (.iaload, 1) := by decide +kernel
theorem dX7_where_193 : decode cX7_where 193 = .ok (.iload_n 2, 1) := by decide +kernel
theorem dX7_where_194 : decode cX7_where 194 = .ok (.if_icmp .le 7, 3) := by decide +kernel
theorem dX7_where_197 : decode cX7_where 197 = .ok (.iconst 1, 1) := by decide +kernel
theorem dX7_where_198 : decode cX7_where 198 = .ok (.goto 4, 3) := by decide +kernel
theorem dX7_where_201 : decode cX7_where 201 = .ok (.iconst 0, 1) := by decide +kernel
theorem dX7_where_202 : decode cX7_where 202 = .ok (.aload_n 0, 1) := by decide +kernel
theorem dX7_where_203 : decode cX7_where 203 = .ok (.getfield 25, 3) := by decide +kernel
theorem dX7_where_206 : decode cX7_where 206 = .ok (.iload 5, 2) := by decide +kernel
theorem dX7_where_208 : decode cX7_where 208 = .ok (.iaload, 1) := by decide +kernel
theorem dX7_where_209 : decode cX7_where 209 = .ok (.iload_n 2, 1) := by decide +kernel
theorem dX7_where_210 : decode cX7_where 210 = .ok (.if_icmp .le 7, 3) := by decide +kernel
theorem dX7_where_213 : decode cX7_where 213 = .ok (.iconst 1, 1) := by decide +kernel
theorem dX7_where_214 : decode cX7_where 214 = .ok (.goto 4, 3) := by decide +kernel
theorem dX7_where_217 : decode cX7_where 217 = .ok (.iconst 0, 1) := by decide +kernel
theorem dX7_where_218 : decode cX7_where 218 = .ok (.if_icmp .eq 48, 3) := by decide +kernel
theorem dX7_where_221 : decode cX7_where 221 = .ok (.iload 6, 2) := by decide +kernel
theorem dX7_where_223 : decode cX7_where 223 = .ok (.ifCond .le 7, 3) := by decide +kernel
theorem dX7_where_226 : decode cX7_where 226 = .ok (.iconst 1, 1) := by decide +kernel
theorem dX7_where_227 : decode cX7_where 227 = .ok (.goto 4, 3) := by decide +kernel
theorem dX7_where_230 : decode cX7_where 230 = .ok (.iconst 0, 1) := by decide +kernel
theorem dX7_where_231 : decode cX7_where 231 = .ok (.aload_n 0, 1) := by decide +kernel
theorem dX7_where_232 : decode cX7_where 232 = .ok (.getfield 25, 3) := by decide +kernel
theorem dX7_where_235 : decode cX7_where 235 = .ok (.iload 5, 2) := by decide +kernel
theorem dX7_where_237 : decode cX7_where 237 = .ok (.iaload, 1) := by decide +kernel
theorem dX7_where_238 : decode cX7_where 238 = .ok (.aload_n 0, 1) := by decide +kernel
theorem dX7_where_239 : decode cX7_where 239 = .ok (.getfield 25, 3) := by decide +kernel
theorem dX7_where_242 : decode cX7_where 242 = .ok (.iload 4, 2) := by decide +kernel
theorem dX7_where_244 : decode cX7_where 244 = .ok (.iaload, 1) := by decide +kernel
theorem dX7_where_245 : decode cX7_where 245 = .ok (.if_icmp .le 7, 3) := by decide +kernel
theorem dX7_where_248 : decode cX7_where 248 = .ok (.iconst 1, 1) := by decide +kernel
theorem dX7_where_249 : decode cX7_where 249 = .ok (.goto 4, 3) := by decide +kernel
theorem dX7_where_252 : decode cX7_where 252 = .ok (.iconst 0, 1) := by decide +kernel
theorem dX7_where_253 : decode cX7_where 253 = .ok (.if_icmp .ne 13, 3) := by decide +kernel
theorem dX7_where_256 : decode cX7_where 256 = .ok (.iload_n 3, 1) := by decide +kernel
theorem dX7_where_257 : decode cX7_where 257 = .ok (.ifCond .ne 7, 3) := by decide +kernel
theorem dX7_where_260 : decode cX7_where 260 = .ok (.iconst 1, 1) := by decide +kernel
theorem dX7_where_261 : decode cX7_where 261 = .ok (.goto 4, 3) := by decide +kernel
theorem dX7_where_264 : decode cX7_where 264 = .ok (.iconst 0, 1) := by decide +kernel
theorem dX7_where_265 : decode cX7_where 265 = .ok (.istore_n 3, 1) := by decide +kernel
theorem dX7_where_266 : decode cX7_where 266 = .ok (.iinc 4 1, 3) := by decide +kernel
theorem dX7_where_269 : decode cX7_where 269 = .ok (.goto (-264), 3) := by decide +kernel
theorem dX7_where_272 : decode cX7_where 272 = .ok (.iload_n 3, 1) := by decide +kernel
theorem dX7_where_273 : decode cX7_where 273 = .ok (.ifCond .eq 7, 3) := by decide +kernel
theorem dX7_where_276 : decode cX7_where 276 = .ok (.iconst 1, 1) := by decide +kernel
theorem dX7_where_277 : decode cX7_where 277 = .ok (.goto 4, 3) := by decide +kernel
theorem dX7_where_280 : decode cX7_where 280 = .ok (.iconst 0, 1) := by decide +kernel
theorem dX7_where_281 : decode cX7_where 281 = .ok (.ireturn, 1) := by decide +kernel
theorem dX7_isSound_0 : decode cX7_isSound 0 = .ok (.iconst 0, 1) := by decide +kernel
theorem dX7_isSound_1 : decode cX7_isSound 1 = .ok (.istore_n 2, 1) := by decide +kernel
theorem dX7_isSound_2 : decode cX7_isSound 2 = .ok (.iload_n 2, 1) := by decide +kernel
theorem dX7_isSound_3 : decode cX7_isSound 3 = .ok (.aload_n 0, 1) := by decide +kernel
theorem dX7_isSound_4 : decode cX7_isSound 4 = .ok (.invokevirtual 47, 3) := by decide +kernel
theorem dX7_isSound_7 : decode cX7_isSound 7 = .ok (.if_icmp .ge 22, 3) := by decide +kernel
theorem dX7_isSound_10 : decode cX7_isSound 10 = .ok (.aload_n 0, 1) := by decide +kernel
theorem dX7_isSound_11 : decode cX7_isSound 11 = .ok (.iload_n 2, 1) := by decide +kernel
theorem dX7_isSound_12 : decode cX7_isSound 12 = .ok (.iload_n 2, 1) := by decide +kernel
theorem dX7_isSound_13 : decode cX7_isSound 13 = .ok (.iconst 1, 1) := by decide +kernel
theorem dX7_isSound_14 : decode cX7_isSound 14 = .ok (.iadd, 1) := by decide +kernel
theorem dX7_isSound_15 : decode cX7_isSound 15 = .ok (.invokevirtual 69, 3) := by decide +kernel
theorem dX7_isSound_18 : decode cX7_isSound 18 = .ok (.ifCond .ne 5, 3) := by decide +kernel
theorem dX7_isSound_21 : decode cX7_isSound 21 = .ok (.iconst 0, 1) := by decide +kernel
theorem dX7_isSound_22 : decode cX7_isSound 22 = .ok (.ireturn, 1) := by decide +kernel
theorem dX7_isSound_23 : decode cX7_isSound 23 = .ok (.iinc 2 1, 3) := by decide +kernel
theorem dX7_isSound_26 : decode cX7_isSound 26 = .ok (.goto (-24), 3) := by decide +kernel
theorem dX7_isSound_29 : decode cX7_isSound 29 = .ok (.iload_n 1, 1) := by decide +kernel
theorem dX7_isSound_30 : decode cX7_isSound 30 = .ok (.bipush 6, 2) := by decide +kernel
theorem dX7_isSound_32 : decode cX7_isSound 32 = .ok (.if_icmp .ne 10, 3) := by decide +kernel
theorem dX7_isSound_35 : decode cX7_isSound 35 = .ok (.aload_n 0, 1) := by decide +kernel
theorem dX7_isSound_36 : decode cX7_isSound 36 = .ok (.invokevirtual 73, 3) := by decide +kernel
theorem dX7_isSound_39 : decode cX7_isSound 39 = .ok (.ifCond .eq 7, 3) := by decide +kernel
theorem dX7_isSound_42 : decode cX7_isSound 42 = .ok (.iconst 1, 1) := by decide +kernel
theorem dX7_isSound_43 : decode cX7_isSound 43 = .ok (.goto 4, 3) := by decide +kernel
theorem dX7_isSound_46 : decode cX7_isSound 46 = .ok (.iconst 0, 1) := by decide +kernel
theorem dX7_isSound_47 : decode cX7_isSound 47 = .ok (.ireturn, 1) := by decide +kernel
theorem dX7_isEdgeFree_0 : decode cX7_isEdgeFree 0 = .ok (.aload_n 0, 1) := by decide +kernel
theorem dX7_isEdgeFree_1 : decode cX7_isEdgeFree 1 = .ok (.iload_n 1, 1) := by decide +kernel
theorem dX7_isEdgeFree_2 : decode cX7_isEdgeFree 2 = .ok (.aload_n 0, 1) := by decide +kernel
theorem dX7_isEdgeFree_3 : decode cX7_isEdgeFree 3 = .ok (.getfield 21, 3) := by decide +kernel
theorem dX7_isEdgeFree_6 : decode cX7_isEdgeFree 6 = .ok (.aload_n 0, 1) := by decide +kernel
theorem dX7_isEdgeFree_7 : decode cX7_isEdgeFree 7 = .ok (.iload_n 1, 1) := by decide +kernel
theorem dX7_isEdgeFree_8 : decode cX7_isEdgeFree 8 = .ok (.invokevirtual 77, 3) := by decide +kernel
theorem dX7_isEdgeFree_11 : decode cX7_isEdgeFree 11 = .ok (.iaload, 1) := by decide +kernel
theorem dX7_isEdgeFree_12 : decode cX7_isEdgeFree 12 = .ok (.aload_n 0, 1) := by decide +kernel
theorem dX7_isEdgeFree_13 : decode cX7_isEdgeFree 13 = .ok (.getfield 25, 3) := by decide +kernel
theorem dX7_isEdgeFree_16 : decode cX7_isEdgeFree 16 = .ok (.aload_n 0, 1) := by decide +kernel
theorem dX7_isEdgeFree_17 : decode cX7_isEdgeFree 17 = .ok (.iload_n 1, 1) := by decide +kernel
theorem dX7_isEdgeFree_18 : decode cX7_isEdgeFree 18 = .ok (.invokevirtual 77, 3) := by decide +kernel
theorem dX7_isEdgeFree_21 : decode cX7_isEdgeFree 21 = .ok (.iaload, 1) := by decide +kernel
theorem dX7_isEdgeFree_22 : decode cX7_isEdgeFree 22 = .ok (.invokevirtual 62, 3) := by decide +kernel
theorem dX7_isEdgeFree_25 : decode cX7_isEdgeFree 25 = .ok (.ifCond .eq 5, 3) := by decide +kernel
theorem dX7_isEdgeFree_28 : decode cX7_isEdgeFree 28 = .ok (.iconst 0, 1) := by decide +kernel
theorem dX7_isEdgeFree_29 : decode cX7_isEdgeFree 29 = .ok (.ireturn, 1) := by decide +kernel
theorem dX7_isEdgeFree_30 : decode cX7_isEdgeFree 30 = .ok (.iload_n 2, 1) := by decide +kernel
theorem dX7_isEdgeFree_31 : decode cX7_isEdgeFree 31 = .ok (.istore_n 3, 1) := by decide +kernel
theorem dX7_isEdgeFree_32 : decode cX7_isEdgeFree 32 = .ok (.iload_n 3, 1) := by decide +kernel
theorem dX7_isEdgeFree_33 : decode cX7_isEdgeFree 33 = .ok (.aload_n 0, 1) := by decide +kernel
theorem dX7_isEdgeFree_34 : decode cX7_isEdgeFree 34 = .ok (.invokevirtual 47, 3) := by decide +kernel
theorem dX7_isEdgeFree_37 : decode cX7_isEdgeFree 37 = .ok (.if_icmp .ge 95, 3) := by decide +kernel
theorem dX7_isEdgeFree_40 : decode cX7_isEdgeFree 40 = .ok (.iload_n 3, 1) := by decide +kernel
theorem dX7_isEdgeFree_41 : decode cX7_isEdgeFree 41 = .ok (.iload_n 1, 1) := by decide +kernel
theorem dX7_isEdgeFree_42 : decode cX7_isEdgeFree 42 = .ok (.if_icmp .ne 6, 3) := by decide +kernel
theorem dX7_isEdgeFree_45 : decode cX7_isEdgeFree 45 = .ok (.goto 81, 3) := by decide +kernel
theorem dX7_isEdgeFree_48 : decode cX7_isEdgeFree 48 = .ok (.aload_n 0, 1) := by decide +kernel
theorem dX7_isEdgeFree_49 : decode cX7_isEdgeFree 49 = .ok (.iload_n 1, 1) := by decide +kernel
theorem dX7_isEdgeFree_50 : decode cX7_isEdgeFree 50 = .ok (.invokevirtual 77, 3) := by decide +kernel
theorem dX7_isEdgeFree_53 : decode cX7_isEdgeFree 53 = .ok (.iload_n 3, 1) := by decide +kernel
theorem dX7_isEdgeFree_54 : decode cX7_isEdgeFree 54 = .ok (.if_icmp .ne 21, 3) := by decide +kernel
theorem dX7_isEdgeFree_57 : decode cX7_isEdgeFree 57 = .ok (.aload_n 0, 1) := by decide +kernel
theorem dX7_isEdgeFree_58 : decode cX7_isEdgeFree 58 = .ok (.iload_n 3, 1) := by decide +kernel
theorem dX7_isEdgeFree_59 : decode cX7_isEdgeFree 59 = .ok (.invokevirtual 81, 3) := by decide +kernel
theorem dX7_isEdgeFree_62 : decode cX7_isEdgeFree 62 = .ok (.ifCond .ne 7, 3) := by decide +kernel
theorem dX7_isEdgeFree_65 : decode cX7_isEdgeFree 65 = .ok (.iconst 1, 1) := by decide +kernel
theorem dX7_isEdgeFree_66 : decode cX7_isEdgeFree 66 = .ok (.goto 4, 3) := by decide +kernel
theorem dX7_isEdgeFree_69 : decode cX7_isEdgeFree 69 = .ok (.iconst 0, 1) := by decide +kernel
theorem dX7_isEdgeFree_70 : decode cX7_isEdgeFree 70 = .ok (.istore 4, 2) := by decide +kernel
theorem dX7_isEdgeFree_72 : decode cX7_isEdgeFree 72 = .ok (.goto 47, 3) := by decide +kernel
theorem dX7_isEdgeFree_75 : decode cX7_isEdgeFree 75 = .ok (.aload_n 0, 1) := by decide +kernel
theorem dX7_isEdgeFree_76 : decode cX7_isEdgeFree 76 = .ok (.iload_n 3, 1) := by decide +kernel
theorem dX7_isEdgeFree_77 : decode cX7_isEdgeFree 77 = .ok (.invokevirtual 77, 3) := by decide +kernel
theorem dX7_isEdgeFree_80 : decode cX7_isEdgeFree 80 = .ok (.iload_n 1, 1) := by decide +kernel
theorem dX7_isEdgeFree_81 : decode cX7_isEdgeFree 81 = .ok (.if_icmp .ne 21, 3) := by decide +kernel
theorem dX7_isEdgeFree_84 : decode cX7_isEdgeFree 84 = .ok (.aload_n 0, 1) := by decide +kernel
theorem dX7_isEdgeFree_85 : decode cX7_isEdgeFree 85 = .ok (.iload_n 1, 1) := by decide +kernel
theorem dX7_isEdgeFree_86 : decode cX7_isEdgeFree 86 = .ok (.invokevirtual 81, 3) := by decide +kernel
theorem dX7_isEdgeFree_89 : decode cX7_isEdgeFree 89 = .ok (.ifCond .ne 7, 3) := by decide +kernel
theorem dX7_isEdgeFree_92 : decode cX7_isEdgeFree 92 = .ok (.iconst 1, 1) := by decide +kernel
theorem dX7_isEdgeFree_93 : decode cX7_isEdgeFree 93 = .ok (.goto 4, 3) := by decide +kernel
theorem dX7_isEdgeFree_96 : decode cX7_isEdgeFree 96 = .ok (.iconst 0, 1) := by decide +kernel
theorem dX7_isEdgeFree_97 : decode cX7_isEdgeFree 97 = .ok (.istore 4, 2) := by decide +kernel
theorem dX7_isEdgeFree_99 : decode cX7_isEdgeFree 99 = .ok (.goto 20, 3) := by decide +kernel
theorem dX7_isEdgeFree_102 : decode cX7_isEdgeFree 102 = .ok (.aload_n 0, 1) := by decide +kernel
theorem dX7_isEdgeFree_103 : decode cX7_isEdgeFree 103 = .ok (.iload_n 1, 1) := by decide +kernel
theorem dX7_isEdgeFree_104 : decode cX7_isEdgeFree 104 = .ok (.aload_n 0, 1) := by decide +kernel
theorem dX7_isEdgeFree_105 : decode cX7_isEdgeFree 105 = .ok (.iload_n 3, 1) := by decide +kernel
theorem dX7_isEdgeFree_106 : decode cX7_isEdgeFree 106 = .ok (.invokevirtual 65, 3) := by decide +kernel
theorem dX7_isEdgeFree_109 : decode cX7_isEdgeFree 109 = .ok (.ifCond .ne 7, 3) := by decide +kernel
theorem dX7_isEdgeFree_112 : decode cX7_isEdgeFree 112 = .ok (.iconst 1, 1) := by decide +kernel
theorem dX7_isEdgeFree_113 : decode cX7_isEdgeFree 113 = .ok (.goto 4, 3) := by decide +kernel
theorem dX7_isEdgeFree_116 : decode cX7_isEdgeFree 116 = .ok (.iconst 0, 1) := by decide +kernel
theorem dX7_isEdgeFree_117 : decode cX7_isEdgeFree 117 = .ok (.istore 4, 2) := by decide +kernel
theorem dX7_isEdgeFree_119 : decode cX7_isEdgeFree 119 = .ok (.iload 4, 2) := by decide +kernel
theorem dX7_isEdgeFree_121 : decode cX7_isEdgeFree 121 = .ok (.ifCond .ne 5, 3) := by decide +kernel
theorem dX7_isEdgeFree_124 : decode cX7_isEdgeFree 124 = .ok (.iconst 0, 1) := by decide +kernel
theorem dX7_isEdgeFree_125 : decode cX7_isEdgeFree 125 = .ok (.ireturn, 1) := by decide +kernel
theorem dX7_isEdgeFree_126 : decode cX7_isEdgeFree 126 = .ok (.iinc 3 1, 3) := by decide +kernel
theorem dX7_isEdgeFree_129 : decode cX7_isEdgeFree 129 = .ok (.goto (-97), 3) := by decide +kernel
theorem dX7_isEdgeFree_132 : decode cX7_isEdgeFree 132 = .ok (.iconst 1, 1) := by decide +kernel
theorem dX7_isEdgeFree_133 : decode cX7_isEdgeFree 133 = .ok (.ireturn, 1) := by decide +kernel
theorem dX7_foldsBack_0 : decode cX7_foldsBack 0 = .ok (.iload_n 1, 1) := by decide +kernel
theorem dX7_foldsBack_1 : decode cX7_foldsBack 1 = .ok (.ifCond .le 9, 3) := by decide +kernel
theorem dX7_foldsBack_4 : decode cX7_foldsBack 4 = .ok (.iload_n 1, 1) := by decide +kernel
theorem dX7_foldsBack_5 : decode cX7_foldsBack 5 = .ok (.iconst 1, 1) := by decide +kernel
theorem dX7_foldsBack_6 : decode cX7_foldsBack 6 = .ok (.isub, 1) := by decide +kernel
theorem dX7_foldsBack_7 : decode cX7_foldsBack 7 = .ok (.goto 9, 3) := by decide +kernel
theorem dX7_foldsBack_10 : decode cX7_foldsBack 10 = .ok (.aload_n 0, 1) := by decide +kernel
theorem dX7_foldsBack_11 : decode cX7_foldsBack 11 = .ok (.getfield 9, 3) := by decide +kernel
theorem dX7_foldsBack_14 : decode cX7_foldsBack 14 = .ok (.iconst 1, 1) := by decide +kernel
theorem dX7_foldsBack_15 : decode cX7_foldsBack 15 = .ok (.isub, 1) := by decide +kernel
theorem dX7_foldsBack_16 : decode cX7_foldsBack 16 = .ok (.istore_n 2, 1) := by decide +kernel
theorem dX7_foldsBack_17 : decode cX7_foldsBack 17 = .ok (.iload_n 1, 1) := by decide +kernel
theorem dX7_foldsBack_18 : decode cX7_foldsBack 18 = .ok (.iconst 1, 1) := by decide +kernel
theorem dX7_foldsBack_19 : decode cX7_foldsBack 19 = .ok (.iadd, 1) := by decide +kernel
theorem dX7_foldsBack_20 : decode cX7_foldsBack 20 = .ok (.aload_n 0, 1) := by decide +kernel
theorem dX7_foldsBack_21 : decode cX7_foldsBack 21 = .ok (.getfield 9, 3) := by decide +kernel
theorem dX7_foldsBack_24 : decode cX7_foldsBack 24 = .ok (.if_icmp .ge 9, 3) := by decide +kernel
theorem dX7_foldsBack_27 : decode cX7_foldsBack 27 = .ok (.iload_n 1, 1) := by decide +kernel
theorem dX7_foldsBack_28 : decode cX7_foldsBack 28 = .ok (.iconst 1, 1) := by decide +kernel
theorem dX7_foldsBack_29 : decode cX7_foldsBack 29 = .ok (.iadd, 1) := by decide +kernel
theorem dX7_foldsBack_30 : decode cX7_foldsBack 30 = .ok (.goto 4, 3) := by decide +kernel
theorem dX7_foldsBack_33 : decode cX7_foldsBack 33 = .ok (.iconst 0, 1) := by decide +kernel
theorem dX7_foldsBack_34 : decode cX7_foldsBack 34 = .ok (.istore_n 3, 1) := by decide +kernel
theorem dX7_foldsBack_35 : decode cX7_foldsBack 35 = .ok (.aload_n 0, 1) := by decide +kernel
theorem dX7_foldsBack_36 : decode cX7_foldsBack 36 = .ok (.getfield 21, 3) := by decide +kernel
theorem dX7_foldsBack_39 : decode cX7_foldsBack 39 = .ok (.iload_n 2, 1) := by decide +kernel
theorem dX7_foldsBack_40 : decode cX7_foldsBack 40 = .ok (.iaload, 1) := by decide +kernel
theorem dX7_foldsBack_41 : decode cX7_foldsBack 41 = .ok (.aload_n 0, 1) := by decide +kernel
theorem dX7_foldsBack_42 : decode cX7_foldsBack 42 = .ok (.getfield 21, 3) := by decide +kernel
theorem dX7_foldsBack_45 : decode cX7_foldsBack 45 = .ok (.iload_n 1, 1) := by decide +kernel
theorem dX7_foldsBack_46 : decode cX7_foldsBack 46 = .ok (.iaload, 1) := by decide +kernel
theorem dX7_foldsBack_47 : decode cX7_foldsBack 47 = .ok (.isub, 1) := by decide +kernel
theorem dX7_foldsBack_48 : decode cX7_foldsBack 48 = .ok (.istore 4, 2) := by decide +kernel
theorem dX7_foldsBack_50 : decode cX7_foldsBack 50 = .ok (.aload_n 0, 1) := by decide +kernel
theorem dX7_foldsBack_51 : decode cX7_foldsBack 51 = .ok (.getfield 25, 3) := by decide +kernel
theorem dX7_foldsBack_54 : decode cX7_foldsBack 54 = .ok (.iload_n 2, 1) := by decide +kernel
theorem dX7_foldsBack_55 : decode cX7_foldsBack 55 = .ok (.iaload, 1) := by decide +kernel
theorem dX7_foldsBack_56 : decode cX7_foldsBack 56 = .ok (.aload_n 0, 1) := by decide +kernel
theorem dX7_foldsBack_57 : decode cX7_foldsBack 57 = .ok (.getfield 25, 3) := by decide +kernel
theorem dX7_foldsBack_60 : decode cX7_foldsBack 60 = .ok (.iload_n 1, 1) := by decide +kernel
theorem dX7_foldsBack_61 : decode cX7_foldsBack 61 = .ok (.iaload, 1) := by decide +kernel
theorem dX7_foldsBack_62 : decode cX7_foldsBack 62 = .ok (.isub, 1) := by decide +kernel
theorem dX7_foldsBack_63 : decode cX7_foldsBack 63 = .ok (.istore 5, 2) := by decide +kernel
theorem dX7_foldsBack_65 : decode cX7_foldsBack 65 = .ok (.aload_n 0, 1) := by decide +kernel
theorem dX7_foldsBack_66 : decode cX7_foldsBack 66 = .ok (.getfield 21, 3) := by decide +kernel
theorem dX7_foldsBack_69 : decode cX7_foldsBack 69 = .ok (.iload_n 3, 1) := by decide +kernel
theorem dX7_foldsBack_70 : decode cX7_foldsBack 70 = .ok (.iaload, 1) := by decide +kernel
theorem dX7_foldsBack_71 : decode cX7_foldsBack 71 = .ok (.aload_n 0, 1) := by decide +kernel
theorem dX7_foldsBack_72 : decode cX7_foldsBack 72 = .ok (.getfield 21, 3) := by decide +kernel
theorem dX7_foldsBack_75 : decode cX7_foldsBack 75 = .ok (.iload_n 1, 1) := by decide +kernel
theorem dX7_foldsBack_76 : decode cX7_foldsBack 76 = .ok (.iaload, 1) := by decide +kernel
theorem dX7_foldsBack_77 : decode cX7_foldsBack 77 = .ok (.isub, 1) := by decide +kernel
theorem dX7_foldsBack_78 : decode cX7_foldsBack 78 = .ok (.istore 6, 2) := by decide +kernel
theorem dX7_foldsBack_80 : decode cX7_foldsBack 80 = .ok (.aload_n 0, 1) := by decide +kernel
theorem dX7_foldsBack_81 : decode cX7_foldsBack 81 = .ok (.getfield 25, 3) := by decide +kernel
theorem dX7_foldsBack_84 : decode cX7_foldsBack 84 = .ok (.iload_n 3, 1) := by decide +kernel
theorem dX7_foldsBack_85 : decode cX7_foldsBack 85 = .ok (.iaload, 1) := by decide +kernel
theorem dX7_foldsBack_86 : decode cX7_foldsBack 86 = .ok (.aload_n 0, 1) := by decide +kernel
theorem dX7_foldsBack_87 : decode cX7_foldsBack 87 = .ok (.getfield 25, 3) := by decide +kernel
theorem dX7_foldsBack_90 : decode cX7_foldsBack 90 = .ok (.iload_n 1, 1) := by decide +kernel
theorem dX7_foldsBack_91 : decode cX7_foldsBack 91 = .ok (.iaload, 1) := by decide +kernel
theorem dX7_foldsBack_92 : decode cX7_foldsBack 92 = .ok (.isub, 1) := by decide +kernel
theorem dX7_foldsBack_93 : decode cX7_foldsBack 93 = .ok (.istore 7, 2) := by decide +kernel
theorem dX7_foldsBack_95 : decode cX7_foldsBack 95 = .ok (.iload 4, 2) := by decide +kernel
theorem dX7_foldsBack_97 : decode cX7_foldsBack 97 = .ok (.iload 7, 2) := by decide +kernel
theorem dX7_foldsBack_99 : decode cX7_foldsBack 99 = .ok (.imul, 1) := by decide +kernel
theorem dX7_foldsBack_100 : decode cX7_foldsBack 100 = .ok (.iload 5, 2) := by decide +kernel
theorem dX7_foldsBack_102 : decode cX7_foldsBack 102 = .ok (.iload 6, 2) := by decide +kernel
theorem dX7_foldsBack_104 : decode cX7_foldsBack 104 = .ok (.imul, 1) := by decide +kernel
theorem dX7_foldsBack_105 : decode cX7_foldsBack 105 = .ok (.if_icmp .ne 21, 3) := by decide +kernel
theorem dX7_foldsBack_108 : decode cX7_foldsBack 108 = .ok (.iload 4, 2) := by decide +kernel
theorem dX7_foldsBack_110 : decode cX7_foldsBack 110 = .ok (.iload 6, 2) := by decide +kernel
theorem dX7_foldsBack_112 : decode cX7_foldsBack 112 = .ok (.imul, 1) := by decide +kernel
theorem dX7_foldsBack_113 : decode cX7_foldsBack 113 = .ok (.iload 5, 2) := by decide +kernel
theorem dX7_foldsBack_115 : decode cX7_foldsBack 115 = .ok (.iload 7, 2) := by decide +kernel
theorem dX7_foldsBack_117 : decode cX7_foldsBack 117 = .ok (.imul, 1) := by decide +kernel
theorem dX7_foldsBack_118 : decode cX7_foldsBack 118 = .ok (.iadd, 1) := by decide +kernel
theorem dX7_foldsBack_119 : decode cX7_foldsBack 119 = .ok (.ifCond .le 7, 3) := by decide +kernel
theorem dX7_foldsBack_122 : decode cX7_foldsBack 122 = .ok (.iconst 1, 1) := by decide +kernel
theorem dX7_foldsBack_123 : decode cX7_foldsBack 123 = .ok (.goto 4, 3) := by decide +kernel
theorem dX7_foldsBack_126 : decode cX7_foldsBack 126 = .ok (.iconst 0, 1) := by decide +kernel
theorem dX7_foldsBack_127 : decode cX7_foldsBack 127 = .ok (.ireturn, 1) := by decide +kernel
theorem dX7_hasRightAngles_0 : decode cX7_hasRightAngles 0 = .ok (.iconst 0, 1) := by decide +kernel
theorem dX7_hasRightAngles_1 : decode cX7_hasRightAngles 1 = .ok (.istore_n 1, 1) := by decide +kernel
theorem dX7_hasRightAngles_2 : decode cX7_hasRightAngles 2 = .ok (.iload_n 1, 1) := by decide +kernel
theorem dX7_hasRightAngles_3 : decode cX7_hasRightAngles 3 = .ok (.aload_n 0, 1) := by decide +kernel
theorem dX7_hasRightAngles_4 : decode cX7_hasRightAngles 4 = .ok (.getfield 9, 3) := by decide +kernel
theorem dX7_hasRightAngles_7 : decode cX7_hasRightAngles 7 = .ok (.if_icmp .ge 81, 3) := by decide +kernel
theorem dX7_hasRightAngles_10 : decode cX7_hasRightAngles 10 = .ok (.aload_n 0, 1) := by decide +kernel
theorem dX7_hasRightAngles_11 : decode cX7_hasRightAngles 11 = .ok (.iload_n 1, 1) := by decide +kernel
theorem dX7_hasRightAngles_12 : decode cX7_hasRightAngles 12 = .ok (.invokevirtual 85, 3) := by decide +kernel
theorem dX7_hasRightAngles_15 : decode cX7_hasRightAngles 15 = .ok (.istore_n 2, 1) := by decide +kernel
theorem dX7_hasRightAngles_16 : decode cX7_hasRightAngles 16 = .ok (.aload_n 0, 1) := by decide +kernel
theorem dX7_hasRightAngles_17 : decode cX7_hasRightAngles 17 = .ok (.iload_n 1, 1) := by decide +kernel
theorem dX7_hasRightAngles_18 : decode cX7_hasRightAngles 18 = .ok (.invokevirtual 77, 3) := by decide +kernel
theorem dX7_hasRightAngles_21 : decode cX7_hasRightAngles 21 = .ok (.istore_n 3, 1) := by decide +kernel
theorem dX7_hasRightAngles_22 : decode cX7_hasRightAngles 22 = .ok (.aload_n 0, 1) := by decide +kernel
theorem dX7_hasRightAngles_23 : decode cX7_hasRightAngles 23 = .ok (.getfield 21, 3) := by decide +kernel
theorem dX7_hasRightAngles_26 : decode cX7_hasRightAngles 26 = .ok (.iload_n 2, 1) := by decide +kernel
theorem dX7_hasRightAngles_27 : decode cX7_hasRightAngles 27 = .ok (.iaload, 1) := by decide +kernel
theorem dX7_hasRightAngles_28 : decode cX7_hasRightAngles 28 = .ok (.aload_n 0, 1) := by decide +kernel
theorem dX7_hasRightAngles_29 : decode cX7_hasRightAngles 29 = .ok (.getfield 21, 3) := by decide +kernel
theorem dX7_hasRightAngles_32 : decode cX7_hasRightAngles 32 = .ok (.iload_n 1, 1) := by decide +kernel
theorem dX7_hasRightAngles_33 : decode cX7_hasRightAngles 33 = .ok (.iaload, 1) := by decide +kernel
theorem dX7_hasRightAngles_34 : decode cX7_hasRightAngles 34 = .ok (.isub, 1) := by decide +kernel
theorem dX7_hasRightAngles_35 : decode cX7_hasRightAngles 35 = .ok (.aload_n 0, 1) := by decide +kernel
theorem dX7_hasRightAngles_36 : decode cX7_hasRightAngles 36 = .ok (.getfield 21, 3) := by decide +kernel
theorem dX7_hasRightAngles_39 : decode cX7_hasRightAngles 39 = .ok (.iload_n 3, 1) := by decide +kernel
theorem dX7_hasRightAngles_40 : decode cX7_hasRightAngles 40 = .ok (.iaload, 1) := by decide +kernel
theorem dX7_hasRightAngles_41 : decode cX7_hasRightAngles 41 = .ok (.aload_n 0, 1) := by decide +kernel
theorem dX7_hasRightAngles_42 : decode cX7_hasRightAngles 42 = .ok (.getfield 21, 3) := by decide +kernel
theorem dX7_hasRightAngles_45 : decode cX7_hasRightAngles 45 = .ok (.iload_n 1, 1) := by decide +kernel
theorem dX7_hasRightAngles_46 : decode cX7_hasRightAngles 46 = .ok (.iaload, 1) := by decide +kernel
theorem dX7_hasRightAngles_47 : decode cX7_hasRightAngles 47 = .ok (.isub, 1) := by decide +kernel
theorem dX7_hasRightAngles_48 : decode cX7_hasRightAngles 48 = .ok (.imul, 1) := by decide +kernel
theorem dX7_hasRightAngles_49 : decode cX7_hasRightAngles 49 = .ok (.aload_n 0, 1) := by decide +kernel
theorem dX7_hasRightAngles_50 : decode cX7_hasRightAngles 50 = .ok (.getfield 25, 3) := by decide +kernel
theorem dX7_hasRightAngles_53 : decode cX7_hasRightAngles 53 = .ok (.iload_n 2, 1) := by decide +kernel
theorem dX7_hasRightAngles_54 : decode cX7_hasRightAngles 54 = .ok (.iaload, 1) := by decide +kernel
theorem dX7_hasRightAngles_55 : decode cX7_hasRightAngles 55 = .ok (.aload_n 0, 1) := by decide +kernel
theorem dX7_hasRightAngles_56 : decode cX7_hasRightAngles 56 = .ok (.getfield 25, 3) := by decide +kernel
theorem dX7_hasRightAngles_59 : decode cX7_hasRightAngles 59 = .ok (.iload_n 1, 1) := by decide +kernel
theorem dX7_hasRightAngles_60 : decode cX7_hasRightAngles 60 = .ok (.iaload, 1) := by decide +kernel
theorem dX7_hasRightAngles_61 : decode cX7_hasRightAngles 61 = .ok (.isub, 1) := by decide +kernel
theorem dX7_hasRightAngles_62 : decode cX7_hasRightAngles 62 = .ok (.aload_n 0, 1) := by decide +kernel
theorem dX7_hasRightAngles_63 : decode cX7_hasRightAngles 63 = .ok (.getfield 25, 3) := by decide +kernel
theorem dX7_hasRightAngles_66 : decode cX7_hasRightAngles 66 = .ok (.iload_n 3, 1) := by decide +kernel
theorem dX7_hasRightAngles_67 : decode cX7_hasRightAngles 67 = .ok (.iaload, 1) := by decide +kernel
theorem dX7_hasRightAngles_68 : decode cX7_hasRightAngles 68 = .ok (.aload_n 0, 1) := by decide +kernel
theorem dX7_hasRightAngles_69 : decode cX7_hasRightAngles 69 = .ok (.getfield 25, 3) := by decide +kernel
theorem dX7_hasRightAngles_72 : decode cX7_hasRightAngles 72 = .ok (.iload_n 1, 1) := by decide +kernel
theorem dX7_hasRightAngles_73 : decode cX7_hasRightAngles 73 = .ok (.iaload, 1) := by decide +kernel
theorem dX7_hasRightAngles_74 : decode cX7_hasRightAngles 74 = .ok (.isub, 1) := by decide +kernel
theorem dX7_hasRightAngles_75 : decode cX7_hasRightAngles 75 = .ok (.imul, 1) := by decide +kernel
theorem dX7_hasRightAngles_76 : decode cX7_hasRightAngles 76 = .ok (.iadd, 1) := by decide +kernel
theorem dX7_hasRightAngles_77 : decode cX7_hasRightAngles 77 = .ok (.ifCond .eq 5, 3) := by decide +kernel
theorem dX7_hasRightAngles_80 : decode cX7_hasRightAngles 80 = .ok (.iconst 0, 1) := by decide +kernel
theorem dX7_hasRightAngles_81 : decode cX7_hasRightAngles 81 = .ok (.ireturn, 1) := by decide +kernel
theorem dX7_hasRightAngles_82 : decode cX7_hasRightAngles 82 = .ok (.iinc 1 1, 3) := by decide +kernel
theorem dX7_hasRightAngles_85 : decode cX7_hasRightAngles 85 = .ok (.goto (-83), 3) := by decide +kernel
theorem dX7_hasRightAngles_88 : decode cX7_hasRightAngles 88 = .ok (.iconst 1, 1) := by decide +kernel
theorem dX7_hasRightAngles_89 : decode cX7_hasRightAngles 89 = .ok (.ireturn, 1) := by decide +kernel
theorem dX7_arePlaces_0 : decode cX7_arePlaces 0 = .ok (.iconst 0, 1) := by decide +kernel
theorem dX7_arePlaces_1 : decode cX7_arePlaces 1 = .ok (.istore_n 1, 1) := by decide +kernel
theorem dX7_arePlaces_2 : decode cX7_arePlaces 2 = .ok (.iload_n 1, 1) := by decide +kernel
theorem dX7_arePlaces_3 : decode cX7_arePlaces 3 = .ok (.aload_n 0, 1) := by decide +kernel
theorem dX7_arePlaces_4 : decode cX7_arePlaces 4 = .ok (.getfield 9, 3) := by decide +kernel
theorem dX7_arePlaces_7 : decode cX7_arePlaces 7 = .ok (.if_icmp .ge 29, 3) := by decide +kernel
theorem dX7_arePlaces_10 : decode cX7_arePlaces 10 = .ok (.aload_n 0, 1) := by decide +kernel
theorem dX7_arePlaces_11 : decode cX7_arePlaces 11 = .ok (.getfield 21, 3) := by decide +kernel
theorem dX7_arePlaces_14 : decode cX7_arePlaces 14 = .ok (.iload_n 1, 1) := by decide +kernel
theorem dX7_arePlaces_15 : decode cX7_arePlaces 15 = .ok (.iaload, 1) := by decide +kernel
theorem dX7_arePlaces_16 : decode cX7_arePlaces 16 = .ok (.aload_n 0, 1) := by decide +kernel
theorem dX7_arePlaces_17 : decode cX7_arePlaces 17 = .ok (.getfield 25, 3) := by decide +kernel
theorem dX7_arePlaces_20 : decode cX7_arePlaces 20 = .ok (.iload_n 1, 1) := by decide +kernel
theorem dX7_arePlaces_21 : decode cX7_arePlaces 21 = .ok (.iaload, 1) := by decide +kernel
theorem dX7_arePlaces_22 : decode cX7_arePlaces 22 = .ok (.invokestatic 88, 3) := by decide +kernel
theorem dX7_arePlaces_25 : decode cX7_arePlaces 25 = .ok (.ifCond .ne 5, 3) := by decide +kernel
theorem dX7_arePlaces_28 : decode cX7_arePlaces 28 = .ok (.iconst 0, 1) := by decide +kernel
theorem dX7_arePlaces_29 : decode cX7_arePlaces 29 = .ok (.ireturn, 1) := by decide +kernel
theorem dX7_arePlaces_30 : decode cX7_arePlaces 30 = .ok (.iinc 1 1, 3) := by decide +kernel
theorem dX7_arePlaces_33 : decode cX7_arePlaces 33 = .ok (.goto (-31), 3) := by decide +kernel
theorem dX7_arePlaces_36 : decode cX7_arePlaces 36 = .ok (.iconst 1, 1) := by decide +kernel
theorem dX7_arePlaces_37 : decode cX7_arePlaces 37 = .ok (.ireturn, 1) := by decide +kernel
theorem dX7_doubleTriangle_0 : decode cX7_doubleTriangle 0 = .ok (.aload_n 0, 1) := by decide +kernel
theorem dX7_doubleTriangle_1 : decode cX7_doubleTriangle 1 = .ok (.iload_n 1, 1) := by decide +kernel
theorem dX7_doubleTriangle_2 : decode cX7_doubleTriangle 2 = .ok (.invokevirtual 77, 3) := by decide +kernel
theorem dX7_doubleTriangle_5 : decode cX7_doubleTriangle 5 = .ok (.istore_n 2, 1) := by decide +kernel
theorem dX7_doubleTriangle_6 : decode cX7_doubleTriangle 6 = .ok (.aload_n 0, 1) := by decide +kernel
theorem dX7_doubleTriangle_7 : decode cX7_doubleTriangle 7 = .ok (.aload_n 0, 1) := by decide +kernel
theorem dX7_doubleTriangle_8 : decode cX7_doubleTriangle 8 = .ok (.iload_n 1, 1) := by decide +kernel
theorem dX7_doubleTriangle_9 : decode cX7_doubleTriangle 9 = .ok (.invokevirtual 85, 3) := by decide +kernel
theorem dX7_doubleTriangle_12 : decode cX7_doubleTriangle 12 = .ok (.aload_n 0, 1) := by decide +kernel
theorem dX7_doubleTriangle_13 : decode cX7_doubleTriangle 13 = .ok (.getfield 21, 3) := by decide +kernel
theorem dX7_doubleTriangle_16 : decode cX7_doubleTriangle 16 = .ok (.iload_n 2, 1) := by decide +kernel
theorem dX7_doubleTriangle_17 : decode cX7_doubleTriangle 17 = .ok (.iaload, 1) := by decide +kernel
theorem dX7_doubleTriangle_18 : decode cX7_doubleTriangle 18 = .ok (.aload_n 0, 1) := by decide +kernel
theorem dX7_doubleTriangle_19 : decode cX7_doubleTriangle 19 = .ok (.getfield 25, 3) := by decide +kernel
theorem dX7_doubleTriangle_22 : decode cX7_doubleTriangle 22 = .ok (.iload_n 2, 1) := by decide +kernel
theorem dX7_doubleTriangle_23 : decode cX7_doubleTriangle 23 = .ok (.iaload, 1) := by decide +kernel
theorem dX7_doubleTriangle_24 : decode cX7_doubleTriangle 24 = .ok (.invokevirtual 51, 3) := by decide +kernel
theorem dX7_doubleTriangle_27 : decode cX7_doubleTriangle 27 = .ok (.invokestatic 91, 3) := by decide +kernel
theorem dX7_doubleTriangle_30 : decode cX7_doubleTriangle 30 = .ok (.ireturn, 1) := by decide +kernel
theorem dX7_doubleArea_0 : decode cX7_doubleArea 0 = .ok (.iconst 0, 1) := by decide +kernel
theorem dX7_doubleArea_1 : decode cX7_doubleArea 1 = .ok (.istore_n 1, 1) := by decide +kernel
theorem dX7_doubleArea_2 : decode cX7_doubleArea 2 = .ok (.iconst 0, 1) := by decide +kernel
theorem dX7_doubleArea_3 : decode cX7_doubleArea 3 = .ok (.istore_n 2, 1) := by decide +kernel
theorem dX7_doubleArea_4 : decode cX7_doubleArea 4 = .ok (.iload_n 2, 1) := by decide +kernel
theorem dX7_doubleArea_5 : decode cX7_doubleArea 5 = .ok (.aload_n 0, 1) := by decide +kernel
theorem dX7_doubleArea_6 : decode cX7_doubleArea 6 = .ok (.getfield 9, 3) := by decide +kernel
theorem dX7_doubleArea_9 : decode cX7_doubleArea 9 = .ok (.if_icmp .ge 45, 3) := by decide +kernel
theorem dX7_doubleArea_12 : decode cX7_doubleArea 12 = .ok (.aload_n 0, 1) := by decide +kernel
theorem dX7_doubleArea_13 : decode cX7_doubleArea 13 = .ok (.iload_n 2, 1) := by decide +kernel
theorem dX7_doubleArea_14 : decode cX7_doubleArea 14 = .ok (.invokevirtual 77, 3) := by decide +kernel
theorem dX7_doubleArea_17 : decode cX7_doubleArea 17 = .ok (.istore_n 3, 1) := by decide +kernel
theorem dX7_doubleArea_18 : decode cX7_doubleArea 18 = .ok (.iload_n 1, 1) := by decide +kernel
theorem dX7_doubleArea_19 : decode cX7_doubleArea 19 = .ok (.aload_n 0, 1) := by decide +kernel
theorem dX7_doubleArea_20 : decode cX7_doubleArea 20 = .ok (.getfield 21, 3) := by decide +kernel
theorem dX7_doubleArea_23 : decode cX7_doubleArea 23 = .ok (.iload_n 2, 1) := by decide +kernel
theorem dX7_doubleArea_24 : decode cX7_doubleArea 24 = .ok (.iaload, 1) := by decide +kernel
theorem dX7_doubleArea_25 : decode cX7_doubleArea 25 = .ok (.aload_n 0, 1) := by decide +kernel
theorem dX7_doubleArea_26 : decode cX7_doubleArea 26 = .ok (.getfield 25, 3) := by decide +kernel
theorem dX7_doubleArea_29 : decode cX7_doubleArea 29 = .ok (.iload_n 3, 1) := by decide +kernel
theorem dX7_doubleArea_30 : decode cX7_doubleArea 30 = .ok (.iaload, 1) := by decide +kernel
theorem dX7_doubleArea_31 : decode cX7_doubleArea 31 = .ok (.imul, 1) := by decide +kernel
theorem dX7_doubleArea_32 : decode cX7_doubleArea 32 = .ok (.aload_n 0, 1) := by decide +kernel
theorem dX7_doubleArea_33 : decode cX7_doubleArea 33 = .ok (.getfield 21, 3) := by decide +kernel
theorem dX7_doubleArea_36 : decode cX7_doubleArea 36 = .ok (.iload_n 3, 1) := by decide +kernel
theorem dX7_doubleArea_37 : decode cX7_doubleArea 37 = .ok (.iaload, 1) := by decide +kernel
theorem dX7_doubleArea_38 : decode cX7_doubleArea 38 = .ok (.aload_n 0, 1) := by decide +kernel
theorem dX7_doubleArea_39 : decode cX7_doubleArea 39 = .ok (.getfield 25, 3) := by decide +kernel
theorem dX7_doubleArea_42 : decode cX7_doubleArea 42 = .ok (.iload_n 2, 1) := by decide +kernel
theorem dX7_doubleArea_43 : decode cX7_doubleArea 43 = .ok (.iaload, 1) := by decide +kernel
theorem dX7_doubleArea_44 : decode cX7_doubleArea 44 = .ok (.imul, 1) := by decide +kernel
theorem dX7_doubleArea_45 : decode cX7_doubleArea 45 = .ok (.isub, 1) := by decide +kernel
theorem dX7_doubleArea_46 : decode cX7_doubleArea 46 = .ok (.iadd, 1) := by decide +kernel
theorem dX7_doubleArea_47 : decode cX7_doubleArea 47 = .ok (.istore_n 1, 1) := by decide +kernel
theorem dX7_doubleArea_48 : decode cX7_doubleArea 48 = .ok (.iinc 2 1, 3) := by decide +kernel
theorem dX7_doubleArea_51 : decode cX7_doubleArea 51 = .ok (.goto (-47), 3) := by decide +kernel
theorem dX7_doubleArea_54 : decode cX7_doubleArea 54 = .ok (.iload_n 1, 1) := by decide +kernel
theorem dX7_doubleArea_55 : decode cX7_doubleArea 55 = .ok (.invokestatic 91, 3) := by decide +kernel
theorem dX7_doubleArea_58 : decode cX7_doubleArea 58 = .ok (.ireturn, 1) := by decide +kernel
theorem dX7_length_0 : decode cX7_length 0 = .ok (.iconst 0, 1) := by decide +kernel
theorem dX7_length_1 : decode cX7_length 1 = .ok (.istore_n 1, 1) := by decide +kernel
theorem dX7_length_2 : decode cX7_length 2 = .ok (.iconst 0, 1) := by decide +kernel
theorem dX7_length_3 : decode cX7_length 3 = .ok (.istore_n 2, 1) := by decide +kernel
theorem dX7_length_4 : decode cX7_length 4 = .ok (.iload_n 2, 1) := by decide +kernel
theorem dX7_length_5 : decode cX7_length 5 = .ok (.aload_n 0, 1) := by decide +kernel
theorem dX7_length_6 : decode cX7_length 6 = .ok (.getfield 9, 3) := by decide +kernel
theorem dX7_length_9 : decode cX7_length 9 = .ok (.iconst 1, 1) := by decide +kernel
theorem dX7_length_10 : decode cX7_length 10 = .ok (.isub, 1) := by decide +kernel
theorem dX7_length_11 : decode cX7_length 11 = .ok (.if_icmp .ge 49, 3) := by decide +kernel
theorem dX7_length_14 : decode cX7_length 14 = .ok (.iload_n 1, 1) := by decide +kernel
theorem dX7_length_15 : decode cX7_length 15 = .ok (.aload_n 0, 1) := by decide +kernel
theorem dX7_length_16 : decode cX7_length 16 = .ok (.getfield 21, 3) := by decide +kernel
theorem dX7_length_19 : decode cX7_length 19 = .ok (.iload_n 2, 1) := by decide +kernel
theorem dX7_length_20 : decode cX7_length 20 = .ok (.iconst 1, 1) := by decide +kernel
theorem dX7_length_21 : decode cX7_length 21 = .ok (.iadd, 1) := by decide +kernel
theorem dX7_length_22 : decode cX7_length 22 = .ok (.iaload, 1) := by decide +kernel
theorem dX7_length_23 : decode cX7_length 23 = .ok (.aload_n 0, 1) := by decide +kernel
theorem dX7_length_24 : decode cX7_length 24 = .ok (.getfield 21, 3) := by decide +kernel
theorem dX7_length_27 : decode cX7_length 27 = .ok (.iload_n 2, 1) := by decide +kernel
theorem dX7_length_28 : decode cX7_length 28 = .ok (.iaload, 1) := by decide +kernel
theorem dX7_length_29 : decode cX7_length 29 = .ok (.isub, 1) := by decide +kernel
theorem dX7_length_30 : decode cX7_length 30 = .ok (.invokestatic 91, 3) := by decide +kernel
theorem dX7_length_33 : decode cX7_length 33 = .ok (.aload_n 0, 1) := by decide +kernel
theorem dX7_length_34 : decode cX7_length 34 = .ok (.getfield 25, 3) := by decide +kernel
theorem dX7_length_37 : decode cX7_length 37 = .ok (.iload_n 2, 1) := by decide +kernel
theorem dX7_length_38 : decode cX7_length 38 = .ok (.iconst 1, 1) := by decide +kernel
theorem dX7_length_39 : decode cX7_length 39 = .ok (.iadd, 1) := by decide +kernel
theorem dX7_length_40 : decode cX7_length 40 = .ok (.iaload, 1) := by decide +kernel
theorem dX7_length_41 : decode cX7_length 41 = .ok (.aload_n 0, 1) := by decide +kernel
theorem dX7_length_42 : decode cX7_length 42 = .ok (.getfield 25, 3) := by decide +kernel
theorem dX7_length_45 : decode cX7_length 45 = .ok (.iload_n 2, 1) := by decide +kernel
theorem dX7_length_46 : decode cX7_length 46 = .ok (.iaload, 1) := by decide +kernel
theorem dX7_length_47 : decode cX7_length 47 = .ok (.isub, 1) := by decide +kernel
theorem dX7_length_48 : decode cX7_length 48 = .ok (.invokestatic 91, 3) := by decide +kernel
theorem dX7_length_51 : decode cX7_length 51 = .ok (.iadd, 1) := by decide +kernel
theorem dX7_length_52 : decode cX7_length 52 = .ok (.iadd, 1) := by decide +kernel
theorem dX7_length_53 : decode cX7_length 53 = .ok (.istore_n 1, 1) := by decide +kernel
theorem dX7_length_54 : decode cX7_length 54 = .ok (.iinc 2 1, 3) := by decide +kernel
theorem dX7_length_57 : decode cX7_length 57 = .ok (.goto (-53), 3) := by decide +kernel
theorem dX7_length_60 : decode cX7_length 60 = .ok (.iload_n 1, 1) := by decide +kernel
theorem dX7_length_61 : decode cX7_length 61 = .ok (.ireturn, 1) := by decide +kernel
theorem dX7_smoothFrom_0 : decode cX7_smoothFrom 0 = .ok (.aload_n 0, 1) := by decide +kernel
theorem dX7_smoothFrom_1 : decode cX7_smoothFrom 1 = .ok (.aload_n 1, 1) := by decide +kernel
theorem dX7_smoothFrom_2 : decode cX7_smoothFrom 2 = .ok (.getfield 28, 3) := by decide +kernel
theorem dX7_smoothFrom_5 : decode cX7_smoothFrom 5 = .ok (.invokevirtual 32, 3) := by decide +kernel
theorem dX7_smoothFrom_8 : decode cX7_smoothFrom 8 = .ok (.iconst 0, 1) := by decide +kernel
theorem dX7_smoothFrom_9 : decode cX7_smoothFrom 9 = .ok (.istore_n 2, 1) := by decide +kernel
theorem dX7_smoothFrom_10 : decode cX7_smoothFrom 10 = .ok (.iload_n 2, 1) := by decide +kernel
theorem dX7_smoothFrom_11 : decode cX7_smoothFrom 11 = .ok (.aload_n 1, 1) := by decide +kernel
theorem dX7_smoothFrom_12 : decode cX7_smoothFrom 12 = .ok (.getfield 9, 3) := by decide +kernel
theorem dX7_smoothFrom_15 : decode cX7_smoothFrom 15 = .ok (.if_icmp .ge 103, 3) := by decide +kernel
theorem dX7_smoothFrom_18 : decode cX7_smoothFrom 18 = .ok (.aload_n 1, 1) := by decide +kernel
theorem dX7_smoothFrom_19 : decode cX7_smoothFrom 19 = .ok (.iload_n 2, 1) := by decide +kernel
theorem dX7_smoothFrom_20 : decode cX7_smoothFrom 20 = .ok (.invokevirtual 85, 3) := by decide +kernel
theorem dX7_smoothFrom_23 : decode cX7_smoothFrom 23 = .ok (.istore_n 3, 1) := by decide +kernel
theorem dX7_smoothFrom_24 : decode cX7_smoothFrom 24 = .ok (.aload_n 1, 1) := by decide +kernel
theorem dX7_smoothFrom_25 : decode cX7_smoothFrom 25 = .ok (.iload_n 2, 1) := by decide +kernel
theorem dX7_smoothFrom_26 : decode cX7_smoothFrom 26 = .ok (.invokevirtual 77, 3) := by decide +kernel
theorem dX7_smoothFrom_29 : decode cX7_smoothFrom 29 = .ok (.istore 4, 2) := by decide +kernel
theorem dX7_smoothFrom_31 : decode cX7_smoothFrom 31 = .ok (.aload_n 1, 1) := by decide +kernel
theorem dX7_smoothFrom_32 : decode cX7_smoothFrom 32 = .ok (.iload_n 2, 1) := by decide +kernel
theorem dX7_smoothFrom_33 : decode cX7_smoothFrom 33 = .ok (.invokevirtual 94, 3) := by decide +kernel
theorem dX7_smoothFrom_36 : decode cX7_smoothFrom 36 = .ok (.ifCond .eq 22, 3) := by decide +kernel
theorem dX7_smoothFrom_39 : decode cX7_smoothFrom 39 = .ok (.aload_n 0, 1) := by decide +kernel
theorem dX7_smoothFrom_40 : decode cX7_smoothFrom 40 = .ok (.aload_n 1, 1) := by decide +kernel
theorem dX7_smoothFrom_41 : decode cX7_smoothFrom 41 = .ok (.getfield 21, 3) := by decide +kernel
theorem dX7_smoothFrom_44 : decode cX7_smoothFrom 44 = .ok (.iload_n 2, 1) := by decide +kernel
theorem dX7_smoothFrom_45 : decode cX7_smoothFrom 45 = .ok (.iaload, 1) := by decide +kernel
theorem dX7_smoothFrom_46 : decode cX7_smoothFrom 46 = .ok (.aload_n 1, 1) := by decide +kernel
theorem dX7_smoothFrom_47 : decode cX7_smoothFrom 47 = .ok (.getfield 25, 3) := by decide +kernel
theorem dX7_smoothFrom_50 : decode cX7_smoothFrom 50 = .ok (.iload_n 2, 1) := by decide +kernel
theorem dX7_smoothFrom_51 : decode cX7_smoothFrom 51 = .ok (.iaload, 1) := by decide +kernel
theorem dX7_smoothFrom_52 : decode cX7_smoothFrom 52 = .ok (.invokevirtual 36, 3) := by decide +kernel
theorem dX7_smoothFrom_55 : decode cX7_smoothFrom 55 = .ok (.goto 57, 3) := by decide +kernel
theorem dX7_smoothFrom_58 : decode cX7_smoothFrom 58 = .ok (.aload_n 0, 1) := by decide +kernel
theorem dX7_smoothFrom_59 : decode cX7_smoothFrom 59 = .ok (.aload_n 1, 1) := by decide +kernel
theorem dX7_smoothFrom_60 : decode cX7_smoothFrom 60 = .ok (.getfield 21, 3) := by decide +kernel
theorem dX7_smoothFrom_63 : decode cX7_smoothFrom 63 = .ok (.iload_n 3, 1) := by decide +kernel
theorem dX7_smoothFrom_64 : decode cX7_smoothFrom 64 = .ok (.iaload, 1) := by decide +kernel
end
section
theorem dX7_smoothFrom_65 : decode cX7_smoothFrom 65 = .ok (.iconst 2, 1) := by decide +kernel
theorem dX7_smoothFrom_66 : decode cX7_smoothFrom 66 = .ok (.aload_n 1, 1) := by decide +kernel
theorem dX7_smoothFrom_67 : decode cX7_smoothFrom 67 = .ok (.getfield 21, 3) := by decide +kernel
theorem dX7_smoothFrom_70 : decode cX7_smoothFrom 70 = .ok (.iload_n 2, 1) := by decide +kernel
theorem dX7_smoothFrom_71 : decode cX7_smoothFrom 71 = .ok (.iaload, 1) := by decide +kernel
theorem dX7_smoothFrom_72 : decode cX7_smoothFrom 72 = .ok (.imul, 1) := by decide +kernel
theorem dX7_smoothFrom_73 : decode cX7_smoothFrom 73 = .ok (.iadd, 1) := by decide +kernel
theorem dX7_smoothFrom_74 : decode cX7_smoothFrom 74 = .ok (.aload_n 1, 1) := by decide +kernel
theorem dX7_smoothFrom_75 : decode cX7_smoothFrom 75 = .ok (.getfield 21, 3) := by decide +kernel
theorem dX7_smoothFrom_78 : decode cX7_smoothFrom 78 = .ok (.iload 4, 2) := by decide +kernel
theorem dX7_smoothFrom_80 : decode cX7_smoothFrom 80 = .ok (.iaload, 1) := by decide +kernel
theorem dX7_smoothFrom_81 : decode cX7_smoothFrom 81 = .ok (.iadd, 1) := by decide +kernel
theorem dX7_smoothFrom_82 : decode cX7_smoothFrom 82 = .ok (.iconst 4, 1) := by decide +kernel
theorem dX7_smoothFrom_83 : decode cX7_smoothFrom 83 = .ok (.idiv, 1) := by decide +kernel
theorem dX7_smoothFrom_84 : decode cX7_smoothFrom 84 = .ok (.aload_n 1, 1) := by decide +kernel
theorem dX7_smoothFrom_85 : decode cX7_smoothFrom 85 = .ok (.getfield 25, 3) := by decide +kernel
theorem dX7_smoothFrom_88 : decode cX7_smoothFrom 88 = .ok (.iload_n 3, 1) := by decide +kernel
theorem dX7_smoothFrom_89 : decode cX7_smoothFrom 89 = .ok (.iaload, 1) := by decide +kernel
theorem dX7_smoothFrom_90 : decode cX7_smoothFrom 90 = .ok (.iconst 2, 1) := by decide +kernel
theorem dX7_smoothFrom_91 : decode cX7_smoothFrom 91 = .ok (.aload_n 1, 1) := by decide +kernel
theorem dX7_smoothFrom_92 : decode cX7_smoothFrom 92 = .ok (.getfield 25, 3) := by decide +kernel
theorem dX7_smoothFrom_95 : decode cX7_smoothFrom 95 = .ok (.iload_n 2, 1) := by decide +kernel
theorem dX7_smoothFrom_96 : decode cX7_smoothFrom 96 = .ok (.iaload, 1) := by decide +kernel
theorem dX7_smoothFrom_97 : decode cX7_smoothFrom 97 = .ok (.imul, 1) := by decide +kernel
theorem dX7_smoothFrom_98 : decode cX7_smoothFrom 98 = .ok (.iadd, 1) := by decide +kernel
theorem dX7_smoothFrom_99 : decode cX7_smoothFrom 99 = .ok (.aload_n 1, 1) := by decide +kernel
theorem dX7_smoothFrom_100 : decode cX7_smoothFrom 100 = .ok (.getfield 25, 3) := by decide +kernel
theorem dX7_smoothFrom_103 : decode cX7_smoothFrom 103 = .ok (.iload 4, 2) := by decide +kernel
theorem dX7_smoothFrom_105 : decode cX7_smoothFrom 105 = .ok (.iaload, 1) := by decide +kernel
theorem dX7_smoothFrom_106 : decode cX7_smoothFrom 106 = .ok (.iadd, 1) := by decide +kernel
theorem dX7_smoothFrom_107 : decode cX7_smoothFrom 107 = .ok (.iconst 4, 1) := by decide +kernel
theorem dX7_smoothFrom_108 : decode cX7_smoothFrom 108 = .ok (.idiv, 1) := by decide +kernel
theorem dX7_smoothFrom_109 : decode cX7_smoothFrom 109 = .ok (.invokevirtual 36, 3) := by decide +kernel
theorem dX7_smoothFrom_112 : decode cX7_smoothFrom 112 = .ok (.iinc 2 1, 3) := by decide +kernel
theorem dX7_smoothFrom_115 : decode cX7_smoothFrom 115 = .ok (.goto (-105), 3) := by decide +kernel
theorem dX7_smoothFrom_118 : decode cX7_smoothFrom 118 = .ok (.return_, 1) := by decide +kernel
theorem dX7_doubleFrom_0 : decode cX7_doubleFrom 0 = .ok (.aload_n 0, 1) := by decide +kernel
theorem dX7_doubleFrom_1 : decode cX7_doubleFrom 1 = .ok (.aload_n 1, 1) := by decide +kernel
theorem dX7_doubleFrom_2 : decode cX7_doubleFrom 2 = .ok (.getfield 28, 3) := by decide +kernel
theorem dX7_doubleFrom_5 : decode cX7_doubleFrom 5 = .ok (.invokevirtual 32, 3) := by decide +kernel
theorem dX7_doubleFrom_8 : decode cX7_doubleFrom 8 = .ok (.iconst 0, 1) := by decide +kernel
theorem dX7_doubleFrom_9 : decode cX7_doubleFrom 9 = .ok (.istore_n 2, 1) := by decide +kernel
theorem dX7_doubleFrom_10 : decode cX7_doubleFrom 10 = .ok (.iload_n 2, 1) := by decide +kernel
theorem dX7_doubleFrom_11 : decode cX7_doubleFrom 11 = .ok (.aload_n 1, 1) := by decide +kernel
theorem dX7_doubleFrom_12 : decode cX7_doubleFrom 12 = .ok (.getfield 9, 3) := by decide +kernel
theorem dX7_doubleFrom_15 : decode cX7_doubleFrom 15 = .ok (.if_icmp .ge 43, 3) := by decide +kernel
theorem dX7_doubleFrom_18 : decode cX7_doubleFrom 18 = .ok (.aload_n 0, 1) := by decide +kernel
theorem dX7_doubleFrom_19 : decode cX7_doubleFrom 19 = .ok (.iconst 2, 1) := by decide +kernel
theorem dX7_doubleFrom_20 : decode cX7_doubleFrom 20 = .ok (.aload_n 1, 1) := by decide +kernel
theorem dX7_doubleFrom_21 : decode cX7_doubleFrom 21 = .ok (.getfield 21, 3) := by decide +kernel
theorem dX7_doubleFrom_24 : decode cX7_doubleFrom 24 = .ok (.iload_n 2, 1) := by decide +kernel
theorem dX7_doubleFrom_25 : decode cX7_doubleFrom 25 = .ok (.iaload, 1) := by decide +kernel
theorem dX7_doubleFrom_26 : decode cX7_doubleFrom 26 = .ok (.imul, 1) := by decide +kernel
theorem dX7_doubleFrom_27 : decode cX7_doubleFrom 27 = .ok (.aload_n 1, 1) := by decide +kernel
theorem dX7_doubleFrom_28 : decode cX7_doubleFrom 28 = .ok (.getfield 21, 3) := by decide +kernel
theorem dX7_doubleFrom_31 : decode cX7_doubleFrom 31 = .ok (.iconst 0, 1) := by decide +kernel
theorem dX7_doubleFrom_32 : decode cX7_doubleFrom 32 = .ok (.iaload, 1) := by decide +kernel
theorem dX7_doubleFrom_33 : decode cX7_doubleFrom 33 = .ok (.isub, 1) := by decide +kernel
theorem dX7_doubleFrom_34 : decode cX7_doubleFrom 34 = .ok (.iconst 2, 1) := by decide +kernel
theorem dX7_doubleFrom_35 : decode cX7_doubleFrom 35 = .ok (.aload_n 1, 1) := by decide +kernel
theorem dX7_doubleFrom_36 : decode cX7_doubleFrom 36 = .ok (.getfield 25, 3) := by decide +kernel
theorem dX7_doubleFrom_39 : decode cX7_doubleFrom 39 = .ok (.iload_n 2, 1) := by decide +kernel
theorem dX7_doubleFrom_40 : decode cX7_doubleFrom 40 = .ok (.iaload, 1) := by decide +kernel
theorem dX7_doubleFrom_41 : decode cX7_doubleFrom 41 = .ok (.imul, 1) := by decide +kernel
theorem dX7_doubleFrom_42 : decode cX7_doubleFrom 42 = .ok (.aload_n 1, 1) := by decide +kernel
theorem dX7_doubleFrom_43 : decode cX7_doubleFrom 43 = .ok (.getfield 25, 3) := by decide +kernel
theorem dX7_doubleFrom_46 : decode cX7_doubleFrom 46 = .ok (.iconst 0, 1) := by decide +kernel
theorem dX7_doubleFrom_47 : decode cX7_doubleFrom 47 = .ok (.iaload, 1) := by decide +kernel
theorem dX7_doubleFrom_48 : decode cX7_doubleFrom 48 = .ok (.isub, 1) := by decide +kernel
theorem dX7_doubleFrom_49 : decode cX7_doubleFrom 49 = .ok (.invokevirtual 36, 3) := by decide +kernel
theorem dX7_doubleFrom_52 : decode cX7_doubleFrom 52 = .ok (.iinc 2 1, 3) := by decide +kernel
theorem dX7_doubleFrom_55 : decode cX7_doubleFrom 55 = .ok (.goto (-45), 3) := by decide +kernel
theorem dX7_doubleFrom_58 : decode cX7_doubleFrom 58 = .ok (.return_, 1) := by decide +kernel
theorem dX7_boxFrom_0 : decode cX7_boxFrom 0 = .ok (.aload_n 0, 1) := by decide +kernel
theorem dX7_boxFrom_1 : decode cX7_boxFrom 1 = .ok (.iconst 1, 1) := by decide +kernel
theorem dX7_boxFrom_2 : decode cX7_boxFrom 2 = .ok (.invokevirtual 32, 3) := by decide +kernel
theorem dX7_boxFrom_5 : decode cX7_boxFrom 5 = .ok (.aload_n 0, 1) := by decide +kernel
theorem dX7_boxFrom_6 : decode cX7_boxFrom 6 = .ok (.aload_n 1, 1) := by decide +kernel
theorem dX7_boxFrom_7 : decode cX7_boxFrom 7 = .ok (.getfield 97, 3) := by decide +kernel
theorem dX7_boxFrom_10 : decode cX7_boxFrom 10 = .ok (.aload_n 1, 1) := by decide +kernel
theorem dX7_boxFrom_11 : decode cX7_boxFrom 11 = .ok (.getfield 102, 3) := by decide +kernel
theorem dX7_boxFrom_14 : decode cX7_boxFrom 14 = .ok (.invokevirtual 36, 3) := by decide +kernel
theorem dX7_boxFrom_17 : decode cX7_boxFrom 17 = .ok (.aload_n 0, 1) := by decide +kernel
theorem dX7_boxFrom_18 : decode cX7_boxFrom 18 = .ok (.aload_n 1, 1) := by decide +kernel
theorem dX7_boxFrom_19 : decode cX7_boxFrom 19 = .ok (.getfield 105, 3) := by decide +kernel
theorem dX7_boxFrom_22 : decode cX7_boxFrom 22 = .ok (.aload_n 1, 1) := by decide +kernel
theorem dX7_boxFrom_23 : decode cX7_boxFrom 23 = .ok (.getfield 102, 3) := by decide +kernel
theorem dX7_boxFrom_26 : decode cX7_boxFrom 26 = .ok (.invokevirtual 36, 3) := by decide +kernel
theorem dX7_boxFrom_29 : decode cX7_boxFrom 29 = .ok (.aload_n 0, 1) := by decide +kernel
theorem dX7_boxFrom_30 : decode cX7_boxFrom 30 = .ok (.aload_n 1, 1) := by decide +kernel
theorem dX7_boxFrom_31 : decode cX7_boxFrom 31 = .ok (.getfield 105, 3) := by decide +kernel
theorem dX7_boxFrom_34 : decode cX7_boxFrom 34 = .ok (.aload_n 1, 1) := by decide +kernel
theorem dX7_boxFrom_35 : decode cX7_boxFrom 35 = .ok (.getfield 108, 3) := by decide +kernel
theorem dX7_boxFrom_38 : decode cX7_boxFrom 38 = .ok (.invokevirtual 36, 3) := by decide +kernel
theorem dX7_boxFrom_41 : decode cX7_boxFrom 41 = .ok (.aload_n 0, 1) := by decide +kernel
theorem dX7_boxFrom_42 : decode cX7_boxFrom 42 = .ok (.aload_n 1, 1) := by decide +kernel
theorem dX7_boxFrom_43 : decode cX7_boxFrom 43 = .ok (.getfield 97, 3) := by decide +kernel
theorem dX7_boxFrom_46 : decode cX7_boxFrom 46 = .ok (.aload_n 1, 1) := by decide +kernel
theorem dX7_boxFrom_47 : decode cX7_boxFrom 47 = .ok (.getfield 108, 3) := by decide +kernel
theorem dX7_boxFrom_50 : decode cX7_boxFrom 50 = .ok (.invokevirtual 36, 3) := by decide +kernel
theorem dX7_boxFrom_53 : decode cX7_boxFrom 53 = .ok (.return_, 1) := by decide +kernel
theorem dX7_carry_0 : decode cX7_carry 0 = .ok (.iconst 0, 1) := by decide +kernel
theorem dX7_carry_1 : decode cX7_carry 1 = .ok (.istore_n 3, 1) := by decide +kernel
theorem dX7_carry_2 : decode cX7_carry 2 = .ok (.iload_n 3, 1) := by decide +kernel
theorem dX7_carry_3 : decode cX7_carry 3 = .ok (.aload_n 0, 1) := by decide +kernel
theorem dX7_carry_4 : decode cX7_carry 4 = .ok (.getfield 9, 3) := by decide +kernel
theorem dX7_carry_7 : decode cX7_carry 7 = .ok (.if_icmp .ge 29, 3) := by decide +kernel
theorem dX7_carry_10 : decode cX7_carry 10 = .ok (.aload_n 0, 1) := by decide +kernel
theorem dX7_carry_11 : decode cX7_carry 11 = .ok (.getfield 21, 3) := by decide +kernel
theorem dX7_carry_14 : decode cX7_carry 14 = .ok (.iload_n 3, 1) := by decide +kernel
theorem dX7_carry_15 : decode cX7_carry 15 = .ok (.dup2, 1) := by decide +kernel
theorem dX7_carry_16 : decode cX7_carry 16 = .ok (.iaload, 1) := by decide +kernel
theorem dX7_carry_17 : decode cX7_carry 17 = .ok (.iload_n 1, 1) := by decide +kernel
theorem dX7_carry_18 : decode cX7_carry 18 = .ok (.iadd, 1) := by decide +kernel
theorem dX7_carry_19 : decode cX7_carry 19 = .ok (.iastore, 1) := by decide +kernel
theorem dX7_carry_20 : decode cX7_carry 20 = .ok (.aload_n 0, 1) := by decide +kernel
theorem dX7_carry_21 : decode cX7_carry 21 = .ok (.getfield 25, 3) := by decide +kernel
theorem dX7_carry_24 : decode cX7_carry 24 = .ok (.iload_n 3, 1) := by decide +kernel
theorem dX7_carry_25 : decode cX7_carry 25 = .ok (.dup2, 1) := by decide +kernel
theorem dX7_carry_26 : decode cX7_carry 26 = .ok (.iaload, 1) := by decide +kernel
theorem dX7_carry_27 : decode cX7_carry 27 = .ok (.iload_n 2, 1) := by decide +kernel
theorem dX7_carry_28 : decode cX7_carry 28 = .ok (.iadd, 1) := by decide +kernel
theorem dX7_carry_29 : decode cX7_carry 29 = .ok (.iastore, 1) := by decide +kernel
theorem dX7_carry_30 : decode cX7_carry 30 = .ok (.iinc 3 1, 3) := by decide +kernel
theorem dX7_carry_33 : decode cX7_carry 33 = .ok (.goto (-31), 3) := by decide +kernel
theorem dX7_carry_36 : decode cX7_carry 36 = .ok (.return_, 1) := by decide +kernel
theorem dX7_pull_0 : decode cX7_pull 0 = .ok (.iload 4, 2) := by decide +kernel
theorem dX7_pull_2 : decode cX7_pull 2 = .ok (.iconst 0, 1) := by decide +kernel
theorem dX7_pull_3 : decode cX7_pull 3 = .ok (.invokestatic 15, 3) := by decide +kernel
theorem dX7_pull_6 : decode cX7_pull 6 = .ok (.iconst 1, 1) := by decide +kernel
theorem dX7_pull_7 : decode cX7_pull 7 = .ok (.iadd, 1) := by decide +kernel
theorem dX7_pull_8 : decode cX7_pull 8 = .ok (.istore 5, 2) := by decide +kernel
theorem dX7_pull_10 : decode cX7_pull 10 = .ok (.iconst 0, 1) := by decide +kernel
theorem dX7_pull_11 : decode cX7_pull 11 = .ok (.istore 6, 2) := by decide +kernel
theorem dX7_pull_13 : decode cX7_pull 13 = .ok (.iload 6, 2) := by decide +kernel
theorem dX7_pull_15 : decode cX7_pull 15 = .ok (.aload_n 0, 1) := by decide +kernel
theorem dX7_pull_16 : decode cX7_pull 16 = .ok (.getfield 9, 3) := by decide +kernel
theorem dX7_pull_19 : decode cX7_pull 19 = .ok (.if_icmp .ge 95, 3) := by decide +kernel
theorem dX7_pull_22 : decode cX7_pull 22 = .ok (.iload 6, 2) := by decide +kernel
theorem dX7_pull_24 : decode cX7_pull 24 = .ok (.iload_n 1, 1) := by decide +kernel
theorem dX7_pull_25 : decode cX7_pull 25 = .ok (.isub, 1) := by decide +kernel
theorem dX7_pull_26 : decode cX7_pull 26 = .ok (.invokestatic 91, 3) := by decide +kernel
theorem dX7_pull_29 : decode cX7_pull 29 = .ok (.istore 7, 2) := by decide +kernel
theorem dX7_pull_31 : decode cX7_pull 31 = .ok (.aload_n 0, 1) := by decide +kernel
theorem dX7_pull_32 : decode cX7_pull 32 = .ok (.getfield 28, 3) := by decide +kernel
theorem dX7_pull_35 : decode cX7_pull 35 = .ok (.ifCond .eq 17, 3) := by decide +kernel
theorem dX7_pull_38 : decode cX7_pull 38 = .ok (.iload 7, 2) := by decide +kernel
theorem dX7_pull_40 : decode cX7_pull 40 = .ok (.aload_n 0, 1) := by decide +kernel
theorem dX7_pull_41 : decode cX7_pull 41 = .ok (.getfield 9, 3) := by decide +kernel
theorem dX7_pull_44 : decode cX7_pull 44 = .ok (.iload 7, 2) := by decide +kernel
theorem dX7_pull_46 : decode cX7_pull 46 = .ok (.isub, 1) := by decide +kernel
theorem dX7_pull_47 : decode cX7_pull 47 = .ok (.invokestatic 111, 3) := by decide +kernel
theorem dX7_pull_50 : decode cX7_pull 50 = .ok (.istore 7, 2) := by decide +kernel
theorem dX7_pull_52 : decode cX7_pull 52 = .ok (.iload 7, 2) := by decide +kernel
theorem dX7_pull_54 : decode cX7_pull 54 = .ok (.iload 5, 2) := by decide +kernel
theorem dX7_pull_56 : decode cX7_pull 56 = .ok (.if_icmp .ge 52, 3) := by decide +kernel
theorem dX7_pull_59 : decode cX7_pull 59 = .ok (.aload_n 0, 1) := by decide +kernel
theorem dX7_pull_60 : decode cX7_pull 60 = .ok (.iload 6, 2) := by decide +kernel
theorem dX7_pull_62 : decode cX7_pull 62 = .ok (.invokevirtual 94, 3) := by decide +kernel
theorem dX7_pull_65 : decode cX7_pull 65 = .ok (.ifCond .ne 43, 3) := by decide +kernel
theorem dX7_pull_68 : decode cX7_pull 68 = .ok (.aload_n 0, 1) := by decide +kernel
theorem dX7_pull_69 : decode cX7_pull 69 = .ok (.getfield 21, 3) := by decide +kernel
theorem dX7_pull_72 : decode cX7_pull 72 = .ok (.iload 6, 2) := by decide +kernel
theorem dX7_pull_74 : decode cX7_pull 74 = .ok (.dup2, 1) := by decide +kernel
theorem dX7_pull_75 : decode cX7_pull 75 = .ok (.iaload, 1) := by decide +kernel
theorem dX7_pull_76 : decode cX7_pull 76 = .ok (.iload_n 2, 1) := by decide +kernel
theorem dX7_pull_77 : decode cX7_pull 77 = .ok (.iload 5, 2) := by decide +kernel
theorem dX7_pull_79 : decode cX7_pull 79 = .ok (.iload 7, 2) := by decide +kernel
theorem dX7_pull_81 : decode cX7_pull 81 = .ok (.isub, 1) := by decide +kernel
theorem dX7_pull_82 : decode cX7_pull 82 = .ok (.imul, 1) := by decide +kernel
theorem dX7_pull_83 : decode cX7_pull 83 = .ok (.iload 5, 2) := by decide +kernel
theorem dX7_pull_85 : decode cX7_pull 85 = .ok (.idiv, 1) := by decide +kernel
theorem dX7_pull_86 : decode cX7_pull 86 = .ok (.iadd, 1) := by decide +kernel
theorem dX7_pull_87 : decode cX7_pull 87 = .ok (.iastore, 1) := by decide +kernel
theorem dX7_pull_88 : decode cX7_pull 88 = .ok (.aload_n 0, 1) := by decide +kernel
theorem dX7_pull_89 : decode cX7_pull 89 = .ok (.getfield 25, 3) := by decide +kernel
theorem dX7_pull_92 : decode cX7_pull 92 = .ok (.iload 6, 2) := by decide +kernel
theorem dX7_pull_94 : decode cX7_pull 94 = .ok (.dup2, 1) := by decide +kernel
theorem dX7_pull_95 : decode cX7_pull 95 = .ok (.iaload, 1) := by decide +kernel
theorem dX7_pull_96 : decode cX7_pull 96 = .ok (.iload_n 3, 1) := by decide +kernel
theorem dX7_pull_97 : decode cX7_pull 97 = .ok (.iload 5, 2) := by decide +kernel
theorem dX7_pull_99 : decode cX7_pull 99 = .ok (.iload 7, 2) := by decide +kernel
theorem dX7_pull_101 : decode cX7_pull 101 = .ok (.isub, 1) := by decide +kernel
theorem dX7_pull_102 : decode cX7_pull 102 = .ok (.imul, 1) := by decide +kernel
theorem dX7_pull_103 : decode cX7_pull 103 = .ok (.iload 5, 2) := by decide +kernel
theorem dX7_pull_105 : decode cX7_pull 105 = .ok (.idiv, 1) := by decide +kernel
theorem dX7_pull_106 : decode cX7_pull 106 = .ok (.iadd, 1) := by decide +kernel
theorem dX7_pull_107 : decode cX7_pull 107 = .ok (.iastore, 1) := by decide +kernel
theorem dX7_pull_108 : decode cX7_pull 108 = .ok (.iinc 6 1, 3) := by decide +kernel
theorem dX7_pull_111 : decode cX7_pull 111 = .ok (.goto (-98), 3) := by decide +kernel
theorem dX7_pull_114 : decode cX7_pull 114 = .ok (.return_, 1) := by decide +kernel
theorem dX8_init_0 : decode cX8_init 0 = .ok (.aload_n 0, 1) := by decide +kernel
theorem dX8_init_1 : decode cX8_init 1 = .ok (.invokespecial 3, 3) := by decide +kernel
theorem dX8_init_4 : decode cX8_init 4 = .ok (.aload_n 0, 1) := by decide +kernel
theorem dX8_init_5 : decode cX8_init 5 = .ok (.sipush 200, 3) := by decide +kernel
theorem dX8_init_8 : decode cX8_init 8 = .ok (.anewarray 9, 3) := by decide +kernel
theorem dX8_init_11 : decode cX8_init 11 = .ok (.putfield 11, 3) := by decide +kernel
theorem dX8_init_14 : decode cX8_init 14 = .ok (.aload_n 0, 1) := by decide +kernel
theorem dX8_init_15 : decode cX8_init 15 = .ok (.iconst 0, 1) := by decide +kernel
theorem dX8_init_16 : decode cX8_init 16 = .ok (.putfield 17, 3) := by decide +kernel
theorem dX8_init_19 : decode cX8_init 19 = .ok (.return_, 1) := by decide +kernel
theorem dX8_isFull_0 : decode cX8_isFull 0 = .ok (.aload_n 0, 1) := by decide +kernel
theorem dX8_isFull_1 : decode cX8_isFull 1 = .ok (.getfield 17, 3) := by decide +kernel
theorem dX8_isFull_4 : decode cX8_isFull 4 = .ok (.aload_n 0, 1) := by decide +kernel
theorem dX8_isFull_5 : decode cX8_isFull 5 = .ok (.getfield 11, 3) := by decide +kernel
theorem dX8_isFull_8 : decode cX8_isFull 8 = .ok (.arraylength, 1) := by decide +kernel
theorem dX8_isFull_9 : decode cX8_isFull 9 = .ok (.if_icmp .lt 7, 3) := by decide +kernel
theorem dX8_isFull_12 : decode cX8_isFull 12 = .ok (.iconst 1, 1) := by decide +kernel
theorem dX8_isFull_13 : decode cX8_isFull 13 = .ok (.goto 4, 3) := by decide +kernel
theorem dX8_isFull_16 : decode cX8_isFull 16 = .ok (.iconst 0, 1) := by decide +kernel
theorem dX8_isFull_17 : decode cX8_isFull 17 = .ok (.ireturn, 1) := by decide +kernel
theorem dX8_add_0 : decode cX8_add 0 = .ok (.aload_n 0, 1) := by decide +kernel
theorem dX8_add_1 : decode cX8_add 1 = .ok (.invokevirtual 21, 3) := by decide +kernel
theorem dX8_add_4 : decode cX8_add 4 = .ok (.ifCond .eq 5, 3) := by decide +kernel
theorem dX8_add_9 : decode cX8_add 9 = .ok (.aload_n 0, 1) := by decide +kernel
theorem dX8_add_10 : decode cX8_add 10 = .ok (.getfield 11, 3) := by decide +kernel
theorem dX8_add_13 : decode cX8_add 13 = .ok (.aload_n 0, 1) := by decide +kernel
theorem dX8_add_14 : decode cX8_add 14 = .ok (.getfield 17, 3) := by decide +kernel
theorem dX8_add_17 : decode cX8_add 17 = .ok (.aload_n 1, 1) := by decide +kernel
theorem dX8_add_18 : decode cX8_add 18 = .ok (.aastore, 1) := by decide +kernel
theorem dX8_add_19 : decode cX8_add 19 = .ok (.aload_n 0, 1) := by decide +kernel
theorem dX8_add_20 : decode cX8_add 20 = .ok (.dup, 1) := by decide +kernel
theorem dX8_add_21 : decode cX8_add 21 = .ok (.getfield 17, 3) := by decide +kernel
theorem dX8_add_24 : decode cX8_add 24 = .ok (.iconst 1, 1) := by decide +kernel
theorem dX8_add_25 : decode cX8_add 25 = .ok (.iadd, 1) := by decide +kernel
theorem dX8_add_26 : decode cX8_add 26 = .ok (.putfield 17, 3) := by decide +kernel
theorem dX8_add_29 : decode cX8_add 29 = .ok (.aload_n 0, 1) := by decide +kernel
theorem dX8_add_30 : decode cX8_add 30 = .ok (.getfield 17, 3) := by decide +kernel
theorem dX8_add_33 : decode cX8_add 33 = .ok (.iconst 1, 1) := by decide +kernel
theorem dX8_add_34 : decode cX8_add 34 = .ok (.isub, 1) := by decide +kernel
theorem dX8_add_35 : decode cX8_add 35 = .ok (.ireturn, 1) := by decide +kernel
theorem dX8_removeLast_0 : decode cX8_removeLast 0 = .ok (.aload_n 0, 1) := by decide +kernel
theorem dX8_removeLast_1 : decode cX8_removeLast 1 = .ok (.aload_n 0, 1) := by decide +kernel
theorem dX8_removeLast_2 : decode cX8_removeLast 2 = .ok (.getfield 17, 3) := by decide +kernel
theorem dX8_removeLast_5 : decode cX8_removeLast 5 = .ok (.iconst 1, 1) := by decide +kernel
theorem dX8_removeLast_6 : decode cX8_removeLast 6 = .ok (.isub, 1) := by decide +kernel
theorem dX8_removeLast_7 : decode cX8_removeLast 7 = .ok (.iconst 0, 1) := by decide +kernel
theorem dX8_removeLast_8 : decode cX8_removeLast 8 = .ok (.invokestatic 25, 3) := by decide +kernel
theorem dX8_removeLast_11 : decode cX8_removeLast 11 = .ok (.putfield 17, 3) := by decide +kernel
theorem dX8_removeLast_14 : decode cX8_removeLast 14 = .ok (.return_, 1) := by decide +kernel
theorem dX8_find_0 : decode cX8_find 0 = .ok (.iload_n 1, 1) := by decide +kernel
theorem dX8_find_1 : decode cX8_find 1 = .ok (.ifCond .lt 20, 3) := by decide +kernel
theorem dX8_find_4 : decode cX8_find 4 = .ok (.iload_n 1, 1) := by decide +kernel
theorem dX8_find_5 : decode cX8_find 5 = .ok (.aload_n 0, 1) := by decide +kernel
theorem dX8_find_6 : decode cX8_find 6 = .ok (.getfield 17, 3) := by decide +kernel
theorem dX8_find_9 : decode cX8_find 9 = .ok (.if_icmp .ge 12, 3) := by decide +kernel
theorem dX8_find_12 : decode cX8_find 12 = .ok (.aload_n 0, 1) := by decide +kernel
theorem dX8_find_13 : decode cX8_find 13 = .ok (.getfield 11, 3) := by decide +kernel
theorem dX8_find_16 : decode cX8_find 16 = .ok (.iload_n 1, 1) := by decide +kernel
theorem dX8_find_17 : decode cX8_find 17 = .ok (.aaload, 1) := by decide +kernel
theorem dX8_find_18 : decode cX8_find 18 = .ok (.goto 4, 3) := by decide +kernel
theorem dX8_find_21 : decode cX8_find 21 = .ok (.aconst_null, 1) := by decide +kernel
theorem dX8_find_22 : decode cX8_find 22 = .ok (.areturn, 1) := by decide +kernel
theorem dX8_rowThere_0 : decode cX8_rowThere 0 = .ok (.aload_n 0, 1) := by decide +kernel
theorem dX8_rowThere_1 : decode cX8_rowThere 1 = .ok (.iload_n 1, 1) := by decide +kernel
theorem dX8_rowThere_2 : decode cX8_rowThere 2 = .ok (.invokevirtual 31, 3) := by decide +kernel
theorem dX8_rowThere_5 : decode cX8_rowThere 5 = .ok (.astore_n 2, 1) := by decide +kernel
theorem dX8_rowThere_6 : decode cX8_rowThere 6 = .ok (.aload_n 2, 1) := by decide +kernel
theorem dX8_rowThere_7 : decode cX8_rowThere 7 = .ok (.ifnull 24, 3) := by decide +kernel
theorem dX8_rowThere_10 : decode cX8_rowThere 10 = .ok (.aload_n 2, 1) := by decide +kernel
theorem dX8_rowThere_11 : decode cX8_rowThere 11 = .ok (.getfield 35, 3) := by decide +kernel
theorem dX8_rowThere_14 : decode cX8_rowThere 14 = .ok (.getfield 39, 3) := by decide +kernel
theorem dX8_rowThere_17 : decode cX8_rowThere 17 = .ok (.iconst 1, 1) := by decide +kernel
theorem dX8_rowThere_18 : decode cX8_rowThere 18 = .ok (.if_icmp .ne 13, 3) := by decide +kernel
theorem dX8_rowThere_21 : decode cX8_rowThere 21 = .ok (.aload_n 2, 1) := by decide +kernel
theorem dX8_rowThere_22 : decode cX8_rowThere 22 = .ok (.getfield 35, 3) := by decide +kernel
theorem dX8_rowThere_25 : decode cX8_rowThere 25 = .ok (.getfield 44, 3) := by decide +kernel
theorem dX8_rowThere_28 : decode cX8_rowThere 28 = .ok (.goto 4, 3) := by decide +kernel
theorem dX8_rowThere_31 : decode cX8_rowThere 31 = .ok (.aconst_null, 1) := by decide +kernel
theorem dX8_rowThere_32 : decode cX8_rowThere 32 = .ok (.areturn, 1) := by decide +kernel
theorem dX8_houseThere_0 : decode cX8_houseThere 0 = .ok (.aload_n 0, 1) := by decide +kernel
theorem dX8_houseThere_1 : decode cX8_houseThere 1 = .ok (.iload_n 1, 1) := by decide +kernel
theorem dX8_houseThere_2 : decode cX8_houseThere 2 = .ok (.invokevirtual 31, 3) := by decide +kernel
theorem dX8_houseThere_5 : decode cX8_houseThere 5 = .ok (.astore_n 2, 1) := by decide +kernel
theorem dX8_houseThere_6 : decode cX8_houseThere 6 = .ok (.aload_n 2, 1) := by decide +kernel
theorem dX8_houseThere_7 : decode cX8_houseThere 7 = .ok (.ifnull 23, 3) := by decide +kernel
theorem dX8_houseThere_10 : decode cX8_houseThere 10 = .ok (.aload_n 2, 1) := by decide +kernel
theorem dX8_houseThere_11 : decode cX8_houseThere 11 = .ok (.getfield 35, 3) := by decide +kernel
theorem dX8_houseThere_14 : decode cX8_houseThere 14 = .ok (.getfield 48, 3) := by decide +kernel
theorem dX8_houseThere_17 : decode cX8_houseThere 17 = .ok (.bipush 6, 2) := by decide +kernel
theorem dX8_houseThere_19 : decode cX8_houseThere 19 = .ok (.if_icmp .ne 11, 3) := by decide +kernel
theorem dX8_houseThere_22 : decode cX8_houseThere 22 = .ok (.aload_n 0, 1) := by decide +kernel
theorem dX8_houseThere_23 : decode cX8_houseThere 23 = .ok (.iload_n 1, 1) := by decide +kernel
theorem dX8_houseThere_24 : decode cX8_houseThere 24 = .ok (.invokevirtual 51, 3) := by decide +kernel
theorem dX8_houseThere_27 : decode cX8_houseThere 27 = .ok (.goto 4, 3) := by decide +kernel
theorem dX8_houseThere_30 : decode cX8_houseThere 30 = .ok (.aconst_null, 1) := by decide +kernel
theorem dX8_houseThere_31 : decode cX8_houseThere 31 = .ok (.areturn, 1) := by decide +kernel
theorem dX8_inState_0 : decode cX8_inState 0 = .ok (.iconst 0, 1) := by decide +kernel
theorem dX8_inState_1 : decode cX8_inState 1 = .ok (.istore_n 2, 1) := by decide +kernel
theorem dX8_inState_2 : decode cX8_inState 2 = .ok (.iconst 0, 1) := by decide +kernel
theorem dX8_inState_3 : decode cX8_inState 3 = .ok (.istore_n 3, 1) := by decide +kernel
theorem dX8_inState_4 : decode cX8_inState 4 = .ok (.iload_n 3, 1) := by decide +kernel
theorem dX8_inState_5 : decode cX8_inState 5 = .ok (.aload_n 0, 1) := by decide +kernel
theorem dX8_inState_6 : decode cX8_inState 6 = .ok (.getfield 17, 3) := by decide +kernel
theorem dX8_inState_9 : decode cX8_inState 9 = .ok (.if_icmp .ge 36, 3) := by decide +kernel
theorem dX8_inState_12 : decode cX8_inState 12 = .ok (.aload_n 0, 1) := by decide +kernel
theorem dX8_inState_13 : decode cX8_inState 13 = .ok (.iload_n 3, 1) := by decide +kernel
theorem dX8_inState_14 : decode cX8_inState 14 = .ok (.invokevirtual 31, 3) := by decide +kernel
theorem dX8_inState_17 : decode cX8_inState 17 = .ok (.astore 4, 2) := by decide +kernel
theorem dX8_inState_19 : decode cX8_inState 19 = .ok (.aload 4, 2) := by decide +kernel
theorem dX8_inState_21 : decode cX8_inState 21 = .ok (.ifnull 18, 3) := by decide +kernel
theorem dX8_inState_24 : decode cX8_inState 24 = .ok (.aload 4, 2) := by decide +kernel
theorem dX8_inState_26 : decode cX8_inState 26 = .ok (.getfield 35, 3) := by decide +kernel
theorem dX8_inState_29 : decode cX8_inState 29 = .ok (.getfield 39, 3) := by decide +kernel
theorem dX8_inState_32 : decode cX8_inState 32 = .ok (.iload_n 1, 1) := by decide +kernel
theorem dX8_inState_33 : decode cX8_inState 33 = .ok (.if_icmp .ne 6, 3) := by decide +kernel
theorem dX8_inState_36 : decode cX8_inState 36 = .ok (.iinc 2 1, 3) := by decide +kernel
theorem dX8_inState_39 : decode cX8_inState 39 = .ok (.iinc 3 1, 3) := by decide +kernel
theorem dX8_inState_42 : decode cX8_inState 42 = .ok (.goto (-38), 3) := by decide +kernel
theorem dX8_inState_45 : decode cX8_inState 45 = .ok (.iload_n 2, 1) := by decide +kernel
theorem dX8_inState_46 : decode cX8_inState 46 = .ok (.ireturn, 1) := by decide +kernel
theorem dX8_torn_0 : decode cX8_torn 0 = .ok (.iconst 0, 1) := by decide +kernel
theorem dX8_torn_1 : decode cX8_torn 1 = .ok (.istore_n 1, 1) := by decide +kernel
theorem dX8_torn_2 : decode cX8_torn 2 = .ok (.iconst 0, 1) := by decide +kernel
theorem dX8_torn_3 : decode cX8_torn 3 = .ok (.istore_n 2, 1) := by decide +kernel
theorem dX8_torn_4 : decode cX8_torn 4 = .ok (.iload_n 2, 1) := by decide +kernel
theorem dX8_torn_5 : decode cX8_torn 5 = .ok (.aload_n 0, 1) := by decide +kernel
theorem dX8_torn_6 : decode cX8_torn 6 = .ok (.getfield 17, 3) := by decide +kernel
theorem dX8_torn_9 : decode cX8_torn 9 = .ok (.if_icmp .ge 32, 3) := by decide +kernel
theorem dX8_torn_12 : decode cX8_torn 12 = .ok (.aload_n 0, 1) := by decide +kernel
theorem dX8_torn_13 : decode cX8_torn 13 = .ok (.iload_n 2, 1) := by decide +kernel
theorem dX8_torn_14 : decode cX8_torn 14 = .ok (.invokevirtual 31, 3) := by decide +kernel
theorem dX8_torn_17 : decode cX8_torn 17 = .ok (.astore_n 3, 1) := by decide +kernel
theorem dX8_torn_18 : decode cX8_torn 18 = .ok (.aload_n 3, 1) := by decide +kernel
theorem dX8_torn_19 : decode cX8_torn 19 = .ok (.ifnull 16, 3) := by decide +kernel
theorem dX8_torn_22 : decode cX8_torn 22 = .ok (.aload_n 3, 1) := by decide +kernel
theorem dX8_torn_23 : decode cX8_torn 23 = .ok (.getfield 35, 3) := by decide +kernel
theorem dX8_torn_26 : decode cX8_torn 26 = .ok (.getfield 44, 3) := by decide +kernel
theorem dX8_torn_29 : decode cX8_torn 29 = .ok (.ifnonnull 6, 3) := by decide +kernel
theorem dX8_torn_32 : decode cX8_torn 32 = .ok (.iinc 1 1, 3) := by decide +kernel
theorem dX8_torn_35 : decode cX8_torn 35 = .ok (.iinc 2 1, 3) := by decide +kernel
theorem dX8_torn_38 : decode cX8_torn 38 = .ok (.goto (-34), 3) := by decide +kernel
theorem dX8_torn_41 : decode cX8_torn 41 = .ok (.iload_n 1, 1) := by decide +kernel
theorem dX8_torn_42 : decode cX8_torn 42 = .ok (.ireturn, 1) := by decide +kernel
theorem dX8_cornersThere_0 : decode cX8_cornersThere 0 = .ok (.iconst 0, 1) := by decide +kernel
theorem dX8_cornersThere_1 : decode cX8_cornersThere 1 = .ok (.istore_n 1, 1) := by decide +kernel
theorem dX8_cornersThere_2 : decode cX8_cornersThere 2 = .ok (.iconst 0, 1) := by decide +kernel
theorem dX8_cornersThere_3 : decode cX8_cornersThere 3 = .ok (.istore_n 2, 1) := by decide +kernel
theorem dX8_cornersThere_4 : decode cX8_cornersThere 4 = .ok (.iload_n 2, 1) := by decide +kernel
theorem dX8_cornersThere_5 : decode cX8_cornersThere 5 = .ok (.aload_n 0, 1) := by decide +kernel
theorem dX8_cornersThere_6 : decode cX8_cornersThere 6 = .ok (.getfield 17, 3) := by decide +kernel
theorem dX8_cornersThere_9 : decode cX8_cornersThere 9 = .ok (.if_icmp .ge 30, 3) := by decide +kernel
theorem dX8_cornersThere_12 : decode cX8_cornersThere 12 = .ok (.aload_n 0, 1) := by decide +kernel
theorem dX8_cornersThere_13 : decode cX8_cornersThere 13 = .ok (.iload_n 2, 1) := by decide +kernel
theorem dX8_cornersThere_14 : decode cX8_cornersThere 14 = .ok (.invokevirtual 51, 3) := by decide +kernel
theorem dX8_cornersThere_17 : decode cX8_cornersThere 17 = .ok (.astore_n 3, 1) := by decide +kernel
theorem dX8_cornersThere_18 : decode cX8_cornersThere 18 = .ok (.iload_n 1, 1) := by decide +kernel
theorem dX8_cornersThere_19 : decode cX8_cornersThere 19 = .ok (.aload_n 3, 1) := by decide +kernel
theorem dX8_cornersThere_20 : decode cX8_cornersThere 20 = .ok (.ifnonnull 7, 3) := by decide +kernel
theorem dX8_cornersThere_23 : decode cX8_cornersThere 23 = .ok (.iconst 0, 1) := by decide +kernel
theorem dX8_cornersThere_24 : decode cX8_cornersThere 24 = .ok (.goto 7, 3) := by decide +kernel
theorem dX8_cornersThere_27 : decode cX8_cornersThere 27 = .ok (.aload_n 3, 1) := by decide +kernel
theorem dX8_cornersThere_28 : decode cX8_cornersThere 28 = .ok (.getfield 55, 3) := by decide +kernel
theorem dX8_cornersThere_31 : decode cX8_cornersThere 31 = .ok (.iadd, 1) := by decide +kernel
theorem dX8_cornersThere_32 : decode cX8_cornersThere 32 = .ok (.istore_n 1, 1) := by decide +kernel
theorem dX8_cornersThere_33 : decode cX8_cornersThere 33 = .ok (.iinc 2 1, 3) := by decide +kernel
theorem dX8_cornersThere_36 : decode cX8_cornersThere 36 = .ok (.goto (-32), 3) := by decide +kernel
theorem dX8_cornersThere_39 : decode cX8_cornersThere 39 = .ok (.iload_n 1, 1) := by decide +kernel
theorem dX8_cornersThere_40 : decode cX8_cornersThere 40 = .ok (.ireturn, 1) := by decide +kernel
theorem dX9_init_0 : decode cX9_init 0 = .ok (.aload_n 0, 1) := by decide +kernel
theorem dX9_init_1 : decode cX9_init 1 = .ok (.invokespecial 1, 3) := by decide +kernel
theorem dX9_init_4 : decode cX9_init 4 = .ok (.aload_n 0, 1) := by decide +kernel
theorem dX9_init_5 : decode cX9_init 5 = .ok (.aconst_null, 1) := by decide +kernel
theorem dX9_init_6 : decode cX9_init 6 = .ok (.putfield 7, 3) := by decide +kernel
theorem dX9_init_9 : decode cX9_init 9 = .ok (.aload_n 0, 1) := by decide +kernel
theorem dX9_init_10 : decode cX9_init 10 = .ok (.iload_n 1, 1) := by decide +kernel
theorem dX9_init_11 : decode cX9_init 11 = .ok (.putfield 13, 3) := by decide +kernel
theorem dX9_init_14 : decode cX9_init 14 = .ok (.aload_n 0, 1) := by decide +kernel
theorem dX9_init_15 : decode cX9_init 15 = .ok (.iload_n 2, 1) := by decide +kernel
theorem dX9_init_16 : decode cX9_init 16 = .ok (.putfield 17, 3) := by decide +kernel
theorem dX9_init_19 : decode cX9_init 19 = .ok (.aload_n 0, 1) := by decide +kernel
theorem dX9_init_20 : decode cX9_init 20 = .ok (.iload_n 3, 1) := by decide +kernel
theorem dX9_init_21 : decode cX9_init 21 = .ok (.putfield 20, 3) := by decide +kernel
theorem dX9_init_24 : decode cX9_init 24 = .ok (.aload_n 0, 1) := by decide +kernel
theorem dX9_init_25 : decode cX9_init 25 = .ok (.aload 4, 2) := by decide +kernel
theorem dX9_init_27 : decode cX9_init 27 = .ok (.putfield 23, 3) := by decide +kernel
theorem dX9_init_30 : decode cX9_init 30 = .ok (.return_, 1) := by decide +kernel
theorem dX9_takeBack_0 : decode cX9_takeBack 0 = .ok (.aload_n 0, 1) := by decide +kernel
theorem dX9_takeBack_1 : decode cX9_takeBack 1 = .ok (.getfield 7, 3) := by decide +kernel
theorem dX9_takeBack_4 : decode cX9_takeBack 4 = .ok (.astore_n 1, 1) := by decide +kernel
theorem dX9_takeBack_5 : decode cX9_takeBack 5 = .ok (.aload_n 1, 1) := by decide +kernel
theorem dX9_takeBack_6 : decode cX9_takeBack 6 = .ok (.ifnull 22, 3) := by decide +kernel
theorem dX9_takeBack_9 : decode cX9_takeBack 9 = .ok (.aload_n 1, 1) := by decide +kernel
theorem dX9_takeBack_10 : decode cX9_takeBack 10 = .ok (.getfield 27, 3) := by decide +kernel
theorem dX9_takeBack_13 : decode cX9_takeBack 13 = .ok (.aload_n 1, 1) := by decide +kernel
theorem dX9_takeBack_14 : decode cX9_takeBack 14 = .ok (.getfield 32, 3) := by decide +kernel
theorem dX9_takeBack_17 : decode cX9_takeBack 17 = .ok (.putfield 36, 3) := by decide +kernel
theorem dX9_takeBack_20 : decode cX9_takeBack 20 = .ok (.aload_n 1, 1) := by decide +kernel
theorem dX9_takeBack_21 : decode cX9_takeBack 21 = .ok (.getfield 41, 3) := by decide +kernel
theorem dX9_takeBack_24 : decode cX9_takeBack 24 = .ok (.astore_n 1, 1) := by decide +kernel
theorem dX9_takeBack_25 : decode cX9_takeBack 25 = .ok (.goto (-20), 3) := by decide +kernel
theorem dX9_takeBack_28 : decode cX9_takeBack 28 = .ok (.return_, 1) := by decide +kernel
theorem dX9_repeat_0 : decode cX9_repeat 0 = .ok (.aload_n 0, 1) := by decide +kernel
theorem dX9_repeat_1 : decode cX9_repeat 1 = .ok (.getfield 7, 3) := by decide +kernel
theorem dX9_repeat_4 : decode cX9_repeat 4 = .ok (.astore_n 1, 1) := by decide +kernel
theorem dX9_repeat_5 : decode cX9_repeat 5 = .ok (.aload_n 1, 1) := by decide +kernel
theorem dX9_repeat_6 : decode cX9_repeat 6 = .ok (.ifnull 22, 3) := by decide +kernel
theorem dX9_repeat_9 : decode cX9_repeat 9 = .ok (.aload_n 1, 1) := by decide +kernel
theorem dX9_repeat_10 : decode cX9_repeat 10 = .ok (.getfield 27, 3) := by decide +kernel
theorem dX9_repeat_13 : decode cX9_repeat 13 = .ok (.aload_n 1, 1) := by decide +kernel
theorem dX9_repeat_14 : decode cX9_repeat 14 = .ok (.getfield 44, 3) := by decide +kernel
theorem dX9_repeat_17 : decode cX9_repeat 17 = .ok (.putfield 36, 3) := by decide +kernel
theorem dX9_repeat_20 : decode cX9_repeat 20 = .ok (.aload_n 1, 1) := by decide +kernel
theorem dX9_repeat_21 : decode cX9_repeat 21 = .ok (.getfield 41, 3) := by decide +kernel
theorem dX9_repeat_24 : decode cX9_repeat 24 = .ok (.astore_n 1, 1) := by decide +kernel
theorem dX9_repeat_25 : decode cX9_repeat 25 = .ok (.goto (-20), 3) := by decide +kernel
theorem dX9_repeat_28 : decode cX9_repeat 28 = .ok (.return_, 1) := by decide +kernel
theorem dX10_init_0 : decode cX10_init 0 = .ok (.aload_n 0, 1) := by decide +kernel
theorem dX10_init_1 : decode cX10_init 1 = .ok (.invokespecial 3, 3) := by decide +kernel
theorem dX10_init_4 : decode cX10_init 4 = .ok (.aload_n 0, 1) := by decide +kernel
theorem dX10_init_5 : decode cX10_init 5 = .ok (.new 9, 3) := by decide +kernel
theorem dX10_init_8 : decode cX10_init 8 = .ok (.dup, 1) := by decide +kernel
theorem dX10_init_9 : decode cX10_init 9 = .ok (.invokespecial 11, 3) := by decide +kernel
theorem dX10_init_12 : decode cX10_init 12 = .ok (.putfield 12, 3) := by decide +kernel
theorem dX10_init_15 : decode cX10_init 15 = .ok (.aload_n 0, 1) := by decide +kernel
theorem dX10_init_16 : decode cX10_init 16 = .ok (.new 16, 3) := by decide +kernel
theorem dX10_init_19 : decode cX10_init 19 = .ok (.dup, 1) := by decide +kernel
theorem dX10_init_20 : decode cX10_init 20 = .ok (.invokespecial 18, 3) := by decide +kernel
theorem dX10_init_23 : decode cX10_init 23 = .ok (.putfield 19, 3) := by decide +kernel
theorem dX10_init_26 : decode cX10_init 26 = .ok (.aload_n 0, 1) := by decide +kernel
theorem dX10_init_27 : decode cX10_init 27 = .ok (.new 23, 3) := by decide +kernel
theorem dX10_init_30 : decode cX10_init 30 = .ok (.dup, 1) := by decide +kernel
theorem dX10_init_31 : decode cX10_init 31 = .ok (.invokespecial 25, 3) := by decide +kernel
theorem dX10_init_34 : decode cX10_init 34 = .ok (.putfield 26, 3) := by decide +kernel
theorem dX10_init_37 : decode cX10_init 37 = .ok (.aload_n 0, 1) := by decide +kernel
theorem dX10_init_38 : decode cX10_init 38 = .ok (.new 30, 3) := by decide +kernel
theorem dX10_init_41 : decode cX10_init 41 = .ok (.dup, 1) := by decide +kernel
theorem dX10_init_42 : decode cX10_init 42 = .ok (.invokespecial 32, 3) := by decide +kernel
theorem dX10_init_45 : decode cX10_init 45 = .ok (.putfield 33, 3) := by decide +kernel
theorem dX10_init_48 : decode cX10_init 48 = .ok (.aload_n 0, 1) := by decide +kernel
theorem dX10_init_49 : decode cX10_init 49 = .ok (.new 30, 3) := by decide +kernel
theorem dX10_init_52 : decode cX10_init 52 = .ok (.dup, 1) := by decide +kernel
theorem dX10_init_53 : decode cX10_init 53 = .ok (.invokespecial 32, 3) := by decide +kernel
theorem dX10_init_56 : decode cX10_init 56 = .ok (.putfield 37, 3) := by decide +kernel
theorem dX10_init_59 : decode cX10_init 59 = .ok (.aload_n 0, 1) := by decide +kernel
theorem dX10_init_60 : decode cX10_init 60 = .ok (.new 40, 3) := by decide +kernel
theorem dX10_init_63 : decode cX10_init 63 = .ok (.dup, 1) := by decide +kernel
theorem dX10_init_64 : decode cX10_init 64 = .ok (.invokespecial 42, 3) := by decide +kernel
theorem dX10_init_67 : decode cX10_init 67 = .ok (.putfield 43, 3) := by decide +kernel
theorem dX10_init_70 : decode cX10_init 70 = .ok (.aload_n 0, 1) := by decide +kernel
theorem dX10_init_71 : decode cX10_init 71 = .ok (.new 40, 3) := by decide +kernel
theorem dX10_init_74 : decode cX10_init 74 = .ok (.dup, 1) := by decide +kernel
theorem dX10_init_75 : decode cX10_init 75 = .ok (.invokespecial 42, 3) := by decide +kernel
theorem dX10_init_78 : decode cX10_init 78 = .ok (.putfield 47, 3) := by decide +kernel
theorem dX10_init_81 : decode cX10_init 81 = .ok (.aload_n 0, 1) := by decide +kernel
theorem dX10_init_82 : decode cX10_init 82 = .ok (.sipush 200, 3) := by decide +kernel
theorem dX10_init_85 : decode cX10_init 85 = .ok (.newarray .boolean, 2) := by decide +kernel
theorem dX10_init_87 : decode cX10_init 87 = .ok (.putfield 50, 3) := by decide +kernel
theorem dX10_init_90 : decode cX10_init 90 = .ok (.aload_n 0, 1) := by decide +kernel
theorem dX10_init_91 : decode cX10_init 91 = .ok (.new 54, 3) := by decide +kernel
theorem dX10_init_94 : decode cX10_init 94 = .ok (.dup, 1) := by decide +kernel
theorem dX10_init_95 : decode cX10_init 95 = .ok (.invokespecial 56, 3) := by decide +kernel
theorem dX10_init_98 : decode cX10_init 98 = .ok (.putfield 57, 3) := by decide +kernel
theorem dX10_init_101 : decode cX10_init 101 = .ok (.aload_n 0, 1) := by decide +kernel
theorem dX10_init_102 : decode cX10_init 102 = .ok (.iconst 0, 1) := by decide +kernel
theorem dX10_init_103 : decode cX10_init 103 = .ok (.putfield 61, 3) := by decide +kernel
theorem dX10_init_106 : decode cX10_init 106 = .ok (.aload_n 0, 1) := by decide +kernel
theorem dX10_init_107 : decode cX10_init 107 = .ok (.iconst 0, 1) := by decide +kernel
theorem dX10_init_108 : decode cX10_init 108 = .ok (.putfield 65, 3) := by decide +kernel
theorem dX10_init_111 : decode cX10_init 111 = .ok (.aload_n 0, 1) := by decide +kernel
theorem dX10_init_112 : decode cX10_init 112 = .ok (.iconst 0, 1) := by decide +kernel
theorem dX10_init_113 : decode cX10_init 113 = .ok (.putfield 68, 3) := by decide +kernel
theorem dX10_init_116 : decode cX10_init 116 = .ok (.aload_n 0, 1) := by decide +kernel
theorem dX10_init_117 : decode cX10_init 117 = .ok (.iconst 0, 1) := by decide +kernel
theorem dX10_init_118 : decode cX10_init 118 = .ok (.putfield 71, 3) := by decide +kernel
theorem dX10_init_121 : decode cX10_init 121 = .ok (.return_, 1) := by decide +kernel
theorem dX10_feature_0 : decode cX10_feature 0 = .ok (.iload_n 1, 1) := by decide +kernel
theorem dX10_feature_1 : decode cX10_feature 1 = .ok (.iconst 0, 1) := by decide +kernel
theorem dX10_feature_2 : decode cX10_feature 2 = .ok (.bipush 6, 2) := by decide +kernel
theorem dX10_feature_4 : decode cX10_feature 4 = .ok (.invokestatic 74, 3) := by decide +kernel
theorem dX10_feature_7 : decode cX10_feature 7 = .ok (.ifCond .eq 13, 3) := by decide +kernel
theorem dX10_feature_10 : decode cX10_feature 10 = .ok (.iload_n 2, 1) := by decide +kernel
theorem dX10_feature_11 : decode cX10_feature 11 = .ok (.iconst 0, 1) := by decide +kernel
theorem dX10_feature_12 : decode cX10_feature 12 = .ok (.bipush 9, 2) := by decide +kernel
theorem dX10_feature_14 : decode cX10_feature 14 = .ok (.invokestatic 74, 3) := by decide +kernel
theorem dX10_feature_17 : decode cX10_feature 17 = .ok (.ifCond .ne 9, 3) := by decide +kernel
theorem dX10_feature_20 : decode cX10_feature 20 = .ok (.aload_n 0, 1) := by decide +kernel
theorem dX10_feature_21 : decode cX10_feature 21 = .ok (.iconst 4, 1) := by decide +kernel
theorem dX10_feature_22 : decode cX10_feature 22 = .ok (.invokevirtual 78, 3) := by decide +kernel
theorem dX10_feature_25 : decode cX10_feature 25 = .ok (.ireturn, 1) := by decide +kernel
theorem dX10_feature_26 : decode cX10_feature 26 = .ok (.iload_n 3, 1) := by decide +kernel
theorem dX10_feature_27 : decode cX10_feature 27 = .ok (.iconst 0, 1) := by decide +kernel
theorem dX10_feature_28 : decode cX10_feature 28 = .ok (.bipush 100, 2) := by decide +kernel
theorem dX10_feature_30 : decode cX10_feature 30 = .ok (.invokestatic 74, 3) := by decide +kernel
theorem dX10_feature_33 : decode cX10_feature 33 = .ok (.ifCond .eq 14, 3) := by decide +kernel
theorem dX10_feature_36 : decode cX10_feature 36 = .ok (.iload 4, 2) := by decide +kernel
theorem dX10_feature_38 : decode cX10_feature 38 = .ok (.iconst 0, 1) := by decide +kernel
theorem dX10_feature_39 : decode cX10_feature 39 = .ok (.bipush 9, 2) := by decide +kernel
theorem dX10_feature_41 : decode cX10_feature 41 = .ok (.invokestatic 74, 3) := by decide +kernel
theorem dX10_feature_44 : decode cX10_feature 44 = .ok (.ifCond .ne 9, 3) := by decide +kernel
theorem dX10_feature_47 : decode cX10_feature 47 = .ok (.aload_n 0, 1) := by decide +kernel
theorem dX10_feature_48 : decode cX10_feature 48 = .ok (.iconst 4, 1) := by decide +kernel
theorem dX10_feature_49 : decode cX10_feature 49 = .ok (.invokevirtual 78, 3) := by decide +kernel
theorem dX10_feature_52 : decode cX10_feature 52 = .ok (.ireturn, 1) := by decide +kernel
theorem dX10_feature_53 : decode cX10_feature 53 = .ok (.aload_n 0, 1) := by decide +kernel
theorem dX10_feature_54 : decode cX10_feature 54 = .ok (.getfield 12, 3) := by decide +kernel
theorem dX10_feature_57 : decode cX10_feature 57 = .ok (.invokevirtual 82, 3) := by decide +kernel
theorem dX10_feature_60 : decode cX10_feature 60 = .ok (.ifCond .eq 10, 3) := by decide +kernel
theorem dX10_feature_63 : decode cX10_feature 63 = .ok (.aload_n 0, 1) := by decide +kernel
theorem dX10_feature_64 : decode cX10_feature 64 = .ok (.bipush 8, 2) := by decide +kernel
theorem dX10_feature_66 : decode cX10_feature 66 = .ok (.invokevirtual 78, 3) := by decide +kernel
theorem dX10_feature_69 : decode cX10_feature 69 = .ok (.ireturn, 1) := by decide +kernel
theorem dX10_feature_70 : decode cX10_feature 70 = .ok (.new 86, 3) := by decide +kernel
theorem dX10_feature_73 : decode cX10_feature 73 = .ok (.dup, 1) := by decide +kernel
theorem dX10_feature_74 : decode cX10_feature 74 = .ok (.iload_n 1, 1) := by decide +kernel
theorem dX10_feature_75 : decode cX10_feature 75 = .ok (.iload_n 2, 1) := by decide +kernel
theorem dX10_feature_76 : decode cX10_feature 76 = .ok (.iload_n 3, 1) := by decide +kernel
theorem dX10_feature_77 : decode cX10_feature 77 = .ok (.iload 4, 2) := by decide +kernel
theorem dX10_feature_79 : decode cX10_feature 79 = .ok (.invokespecial 88, 3) := by decide +kernel
theorem dX10_feature_82 : decode cX10_feature 82 = .ok (.astore 5, 2) := by decide +kernel
theorem dX10_feature_84 : decode cX10_feature 84 = .ok (.aload 5, 2) := by decide +kernel
theorem dX10_feature_86 : decode cX10_feature 86 = .ok (.getfield 91, 3) := by decide +kernel
theorem dX10_feature_89 : decode cX10_feature 89 = .ok (.new 95, 3) := by decide +kernel
theorem dX10_feature_92 : decode cX10_feature 92 = .ok (.dup, 1) := by decide +kernel
theorem dX10_feature_93 : decode cX10_feature 93 = .ok (.iload_n 1, 1) := by decide +kernel
theorem dX10_feature_94 : decode cX10_feature 94 = .ok (.invokestatic 97, 3) := by decide +kernel
theorem dX10_feature_97 : decode cX10_feature 97 = .ok (.iload_n 1, 1) := by decide +kernel
theorem dX10_feature_98 : decode cX10_feature 98 = .ok (.iconst 5, 1) := by decide +kernel
theorem dX10_feature_99 : decode cX10_feature 99 = .ok (.if_icmp .lt 7, 3) := by decide +kernel
theorem dX10_feature_102 : decode cX10_feature 102 = .ok (.iconst 1, 1) := by decide +kernel
theorem dX10_feature_103 : decode cX10_feature 103 = .ok (.goto 4, 3) := by decide +kernel
theorem dX10_feature_106 : decode cX10_feature 106 = .ok (.iconst 0, 1) := by decide +kernel
theorem dX10_feature_107 : decode cX10_feature 107 = .ok (.invokespecial 100, 3) := by decide +kernel
theorem dX10_feature_110 : decode cX10_feature 110 = .ok (.putfield 103, 3) := by decide +kernel
theorem dX10_feature_113 : decode cX10_feature 113 = .ok (.aload_n 0, 1) := by decide +kernel
theorem dX10_feature_114 : decode cX10_feature 114 = .ok (.invokevirtual 109, 3) := by decide +kernel
theorem dX10_feature_117 : decode cX10_feature 117 = .ok (.pop, 1) := by decide +kernel
theorem dX10_feature_118 : decode cX10_feature 118 = .ok (.aload_n 0, 1) := by decide +kernel
theorem dX10_feature_119 : decode cX10_feature 119 = .ok (.getfield 12, 3) := by decide +kernel
theorem dX10_feature_122 : decode cX10_feature 122 = .ok (.aload 5, 2) := by decide +kernel
theorem dX10_feature_124 : decode cX10_feature 124 = .ok (.invokevirtual 112, 3) := by decide +kernel
theorem dX10_feature_127 : decode cX10_feature 127 = .ok (.ireturn, 1) := by decide +kernel
theorem dX10_corner_0 : decode cX10_corner 0 = .ok (.aload_n 0, 1) := by decide +kernel
theorem dX10_corner_1 : decode cX10_corner 1 = .ok (.getfield 12, 3) := by decide +kernel
theorem dX10_corner_4 : decode cX10_corner 4 = .ok (.iload_n 1, 1) := by decide +kernel
theorem dX10_corner_5 : decode cX10_corner 5 = .ok (.invokevirtual 116, 3) := by decide +kernel
theorem dX10_corner_8 : decode cX10_corner 8 = .ok (.astore 4, 2) := by decide +kernel
theorem dX10_corner_10 : decode cX10_corner 10 = .ok (.aload 4, 2) := by decide +kernel
theorem dX10_corner_12 : decode cX10_corner 12 = .ok (.ifnonnull 9, 3) := by decide +kernel
theorem dX10_corner_15 : decode cX10_corner 15 = .ok (.aload_n 0, 1) := by decide +kernel
theorem dX10_corner_16 : decode cX10_corner 16 = .ok (.iconst 1, 1) := by decide +kernel
theorem dX10_corner_17 : decode cX10_corner 17 = .ok (.invokevirtual 78, 3) := by decide +kernel
theorem dX10_corner_20 : decode cX10_corner 20 = .ok (.ireturn, 1) := by decide +kernel
theorem dX10_corner_21 : decode cX10_corner 21 = .ok (.aload 4, 2) := by decide +kernel
theorem dX10_corner_23 : decode cX10_corner 23 = .ok (.getfield 91, 3) := by decide +kernel
theorem dX10_corner_26 : decode cX10_corner 26 = .ok (.getfield 120, 3) := by decide +kernel
theorem dX10_corner_29 : decode cX10_corner 29 = .ok (.ifCond .eq 9, 3) := by decide +kernel
theorem dX10_corner_32 : decode cX10_corner 32 = .ok (.aload_n 0, 1) := by decide +kernel
theorem dX10_corner_33 : decode cX10_corner 33 = .ok (.iconst 2, 1) := by decide +kernel
theorem dX10_corner_34 : decode cX10_corner 34 = .ok (.invokevirtual 78, 3) := by decide +kernel
theorem dX10_corner_37 : decode cX10_corner 37 = .ok (.ireturn, 1) := by decide +kernel
theorem dX10_corner_38 : decode cX10_corner 38 = .ok (.iload_n 2, 1) := by decide +kernel
theorem dX10_corner_39 : decode cX10_corner 39 = .ok (.iload_n 3, 1) := by decide +kernel
theorem dX10_corner_40 : decode cX10_corner 40 = .ok (.invokestatic 123, 3) := by decide +kernel
theorem dX10_corner_43 : decode cX10_corner 43 = .ok (.ifCond .ne 9, 3) := by decide +kernel
theorem dX10_corner_46 : decode cX10_corner 46 = .ok (.aload_n 0, 1) := by decide +kernel
theorem dX10_corner_47 : decode cX10_corner 47 = .ok (.iconst 4, 1) := by decide +kernel
theorem dX10_corner_48 : decode cX10_corner 48 = .ok (.invokevirtual 78, 3) := by decide +kernel
theorem dX10_corner_51 : decode cX10_corner 51 = .ok (.ireturn, 1) := by decide +kernel
theorem dX10_corner_52 : decode cX10_corner 52 = .ok (.aload 4, 2) := by decide +kernel
theorem dX10_corner_54 : decode cX10_corner 54 = .ok (.getfield 91, 3) := by decide +kernel
theorem dX10_corner_57 : decode cX10_corner 57 = .ok (.getfield 103, 3) := by decide +kernel
theorem dX10_corner_60 : decode cX10_corner 60 = .ok (.astore 5, 2) := by decide +kernel
theorem dX10_corner_62 : decode cX10_corner 62 = .ok (.aload 5, 2) := by decide +kernel
theorem dX10_corner_64 : decode cX10_corner 64 = .ok (.ifnonnull 9, 3) := by decide +kernel
theorem dX10_corner_67 : decode cX10_corner 67 = .ok (.aload_n 0, 1) := by decide +kernel
theorem dX10_corner_68 : decode cX10_corner 68 = .ok (.iconst 5, 1) := by decide +kernel
theorem dX10_corner_69 : decode cX10_corner 69 = .ok (.invokevirtual 78, 3) := by decide +kernel
theorem dX10_corner_72 : decode cX10_corner 72 = .ok (.ireturn, 1) := by decide +kernel
theorem dX10_corner_73 : decode cX10_corner 73 = .ok (.aload 5, 2) := by decide +kernel
theorem dX10_corner_75 : decode cX10_corner 75 = .ok (.getfield 127, 3) := by decide +kernel
theorem dX10_corner_78 : decode cX10_corner 78 = .ok (.aload 4, 2) := by decide +kernel
theorem dX10_corner_80 : decode cX10_corner 80 = .ok (.getfield 91, 3) := by decide +kernel
theorem dX10_corner_83 : decode cX10_corner 83 = .ok (.getfield 130, 3) := by decide +kernel
theorem dX10_corner_86 : decode cX10_corner 86 = .ok (.invokestatic 97, 3) := by decide +kernel
theorem dX10_corner_89 : decode cX10_corner 89 = .ok (.if_icmp .lt 10, 3) := by decide +kernel
theorem dX10_corner_92 : decode cX10_corner 92 = .ok (.aload_n 0, 1) := by decide +kernel
theorem dX10_corner_93 : decode cX10_corner 93 = .ok (.bipush 6, 2) := by decide +kernel
theorem dX10_corner_95 : decode cX10_corner 95 = .ok (.invokevirtual 78, 3) := by decide +kernel
theorem dX10_corner_98 : decode cX10_corner 98 = .ok (.ireturn, 1) := by decide +kernel
theorem dX10_corner_99 : decode cX10_corner 99 = .ok (.aload 5, 2) := by decide +kernel
theorem dX10_corner_101 : decode cX10_corner 101 = .ok (.iload_n 2, 1) := by decide +kernel
theorem dX10_corner_102 : decode cX10_corner 102 = .ok (.iload_n 3, 1) := by decide +kernel
theorem dX10_corner_103 : decode cX10_corner 103 = .ok (.invokevirtual 133, 3) := by decide +kernel
theorem dX10_corner_106 : decode cX10_corner 106 = .ok (.aload_n 0, 1) := by decide +kernel
theorem dX10_corner_107 : decode cX10_corner 107 = .ok (.iconst 0, 1) := by decide +kernel
theorem dX10_corner_108 : decode cX10_corner 108 = .ok (.putfield 71, 3) := by decide +kernel
theorem dX10_corner_111 : decode cX10_corner 111 = .ok (.aload 5, 2) := by decide +kernel
theorem dX10_corner_113 : decode cX10_corner 113 = .ok (.getfield 127, 3) := by decide +kernel
theorem dX10_corner_116 : decode cX10_corner 116 = .ok (.ireturn, 1) := by decide +kernel
theorem dX10_tear_0 : decode cX10_tear 0 = .ok (.aload_n 0, 1) := by decide +kernel
theorem dX10_tear_1 : decode cX10_tear 1 = .ok (.getfield 12, 3) := by decide +kernel
theorem dX10_tear_4 : decode cX10_tear 4 = .ok (.iload_n 1, 1) := by decide +kernel
theorem dX10_tear_5 : decode cX10_tear 5 = .ok (.invokevirtual 116, 3) := by decide +kernel
theorem dX10_tear_8 : decode cX10_tear 8 = .ok (.astore_n 2, 1) := by decide +kernel
theorem dX10_tear_9 : decode cX10_tear 9 = .ok (.aload_n 2, 1) := by decide +kernel
theorem dX10_tear_10 : decode cX10_tear 10 = .ok (.ifnonnull 9, 3) := by decide +kernel
theorem dX10_tear_13 : decode cX10_tear 13 = .ok (.aload_n 0, 1) := by decide +kernel
theorem dX10_tear_14 : decode cX10_tear 14 = .ok (.iconst 1, 1) := by decide +kernel
theorem dX10_tear_15 : decode cX10_tear 15 = .ok (.invokevirtual 137, 3) := by decide +kernel
theorem dX10_tear_18 : decode cX10_tear 18 = .ok (.ireturn, 1) := by decide +kernel
theorem dX10_tear_19 : decode cX10_tear 19 = .ok (.aload_n 2, 1) := by decide +kernel
theorem dX10_tear_20 : decode cX10_tear 20 = .ok (.getfield 91, 3) := by decide +kernel
theorem dX10_tear_23 : decode cX10_tear 23 = .ok (.getfield 120, 3) := by decide +kernel
theorem dX10_tear_26 : decode cX10_tear 26 = .ok (.iconst 2, 1) := by decide +kernel
theorem dX10_tear_27 : decode cX10_tear 27 = .ok (.if_icmp .ne 9, 3) := by decide +kernel
theorem dX10_tear_30 : decode cX10_tear 30 = .ok (.aload_n 0, 1) := by decide +kernel
theorem dX10_tear_31 : decode cX10_tear 31 = .ok (.iconst 2, 1) := by decide +kernel
theorem dX10_tear_32 : decode cX10_tear 32 = .ok (.invokevirtual 137, 3) := by decide +kernel
theorem dX10_tear_35 : decode cX10_tear 35 = .ok (.ireturn, 1) := by decide +kernel
theorem dX10_tear_36 : decode cX10_tear 36 = .ok (.aload_n 2, 1) := by decide +kernel
theorem dX10_tear_37 : decode cX10_tear 37 = .ok (.getfield 91, 3) := by decide +kernel
theorem dX10_tear_40 : decode cX10_tear 40 = .ok (.getfield 103, 3) := by decide +kernel
theorem dX10_tear_43 : decode cX10_tear 43 = .ok (.ifnonnull 9, 3) := by decide +kernel
theorem dX10_tear_46 : decode cX10_tear 46 = .ok (.aload_n 0, 1) := by decide +kernel
theorem dX10_tear_47 : decode cX10_tear 47 = .ok (.iconst 5, 1) := by decide +kernel
theorem dX10_tear_48 : decode cX10_tear 48 = .ok (.invokevirtual 137, 3) := by decide +kernel
theorem dX10_tear_51 : decode cX10_tear 51 = .ok (.ireturn, 1) := by decide +kernel
theorem dX10_tear_52 : decode cX10_tear 52 = .ok (.aload_n 2, 1) := by decide +kernel
theorem dX10_tear_53 : decode cX10_tear 53 = .ok (.getfield 91, 3) := by decide +kernel
theorem dX10_tear_56 : decode cX10_tear 56 = .ok (.aconst_null, 1) := by decide +kernel
theorem dX10_tear_57 : decode cX10_tear 57 = .ok (.putfield 103, 3) := by decide +kernel
theorem dX10_tear_60 : decode cX10_tear 60 = .ok (.aload_n 0, 1) := by decide +kernel
theorem dX10_tear_61 : decode cX10_tear 61 = .ok (.invokevirtual 109, 3) := by decide +kernel
theorem dX10_tear_64 : decode cX10_tear 64 = .ok (.ireturn, 1) := by decide +kernel
theorem dX10_done_0 : decode cX10_done 0 = .ok (.aload_n 0, 1) := by decide +kernel
theorem dX10_done_1 : decode cX10_done 1 = .ok (.getfield 12, 3) := by decide +kernel
theorem dX10_done_4 : decode cX10_done 4 = .ok (.iload_n 1, 1) := by decide +kernel
theorem dX10_done_5 : decode cX10_done 5 = .ok (.invokevirtual 116, 3) := by decide +kernel
theorem dX10_done_8 : decode cX10_done 8 = .ok (.astore_n 2, 1) := by decide +kernel
theorem dX10_done_9 : decode cX10_done 9 = .ok (.aload_n 2, 1) := by decide +kernel
theorem dX10_done_10 : decode cX10_done 10 = .ok (.ifnonnull 9, 3) := by decide +kernel
theorem dX10_done_13 : decode cX10_done 13 = .ok (.aload_n 0, 1) := by decide +kernel
theorem dX10_done_14 : decode cX10_done 14 = .ok (.iconst 1, 1) := by decide +kernel
theorem dX10_done_15 : decode cX10_done 15 = .ok (.invokevirtual 137, 3) := by decide +kernel
theorem dX10_done_18 : decode cX10_done 18 = .ok (.ireturn, 1) := by decide +kernel
theorem dX10_done_19 : decode cX10_done 19 = .ok (.aload_n 2, 1) := by decide +kernel
theorem dX10_done_20 : decode cX10_done 20 = .ok (.getfield 91, 3) := by decide +kernel
theorem dX10_done_23 : decode cX10_done 23 = .ok (.getfield 120, 3) := by decide +kernel
theorem dX10_done_26 : decode cX10_done 26 = .ok (.ifCond .eq 9, 3) := by decide +kernel
theorem dX10_done_29 : decode cX10_done 29 = .ok (.aload_n 0, 1) := by decide +kernel
theorem dX10_done_30 : decode cX10_done 30 = .ok (.iconst 2, 1) := by decide +kernel
theorem dX10_done_31 : decode cX10_done 31 = .ok (.invokevirtual 137, 3) := by decide +kernel
theorem dX10_done_34 : decode cX10_done 34 = .ok (.ireturn, 1) := by decide +kernel
theorem dX10_done_35 : decode cX10_done 35 = .ok (.aload_n 2, 1) := by decide +kernel
theorem dX10_done_36 : decode cX10_done 36 = .ok (.getfield 91, 3) := by decide +kernel
theorem dX10_done_39 : decode cX10_done 39 = .ok (.getfield 103, 3) := by decide +kernel
theorem dX10_done_42 : decode cX10_done 42 = .ok (.astore_n 3, 1) := by decide +kernel
theorem dX10_done_43 : decode cX10_done 43 = .ok (.aload_n 3, 1) := by decide +kernel
theorem dX10_done_44 : decode cX10_done 44 = .ok (.ifnonnull 9, 3) := by decide +kernel
theorem dX10_done_47 : decode cX10_done 47 = .ok (.aload_n 0, 1) := by decide +kernel
theorem dX10_done_48 : decode cX10_done 48 = .ok (.iconst 5, 1) := by decide +kernel
theorem dX10_done_49 : decode cX10_done 49 = .ok (.invokevirtual 137, 3) := by decide +kernel
theorem dX10_done_52 : decode cX10_done 52 = .ok (.ireturn, 1) := by decide +kernel
theorem dX10_done_53 : decode cX10_done 53 = .ok (.aload_n 3, 1) := by decide +kernel
theorem dX10_done_54 : decode cX10_done 54 = .ok (.getfield 127, 3) := by decide +kernel
theorem dX10_done_57 : decode cX10_done 57 = .ok (.aload_n 2, 1) := by decide +kernel
theorem dX10_done_58 : decode cX10_done 58 = .ok (.getfield 91, 3) := by decide +kernel
theorem dX10_done_61 : decode cX10_done 61 = .ok (.getfield 130, 3) := by decide +kernel
theorem dX10_done_64 : decode cX10_done 64 = .ok (.invokestatic 141, 3) := by decide +kernel
theorem dX10_done_67 : decode cX10_done 67 = .ok (.if_icmp .lt 17, 3) := by decide +kernel
theorem dX10_done_70 : decode cX10_done 70 = .ok (.aload_n 3, 1) := by decide +kernel
theorem dX10_done_71 : decode cX10_done 71 = .ok (.aload_n 2, 1) := by decide +kernel
theorem dX10_done_72 : decode cX10_done 72 = .ok (.getfield 91, 3) := by decide +kernel
theorem dX10_done_75 : decode cX10_done 75 = .ok (.getfield 130, 3) := by decide +kernel
theorem dX10_done_78 : decode cX10_done 78 = .ok (.invokevirtual 144, 3) := by decide +kernel
theorem dX10_done_81 : decode cX10_done 81 = .ok (.ifCond .ne 10, 3) := by decide +kernel
theorem dX10_done_84 : decode cX10_done 84 = .ok (.aload_n 0, 1) := by decide +kernel
theorem dX10_done_85 : decode cX10_done 85 = .ok (.bipush 6, 2) := by decide +kernel
theorem dX10_done_87 : decode cX10_done 87 = .ok (.invokevirtual 137, 3) := by decide +kernel
theorem dX10_done_90 : decode cX10_done 90 = .ok (.ireturn, 1) := by decide +kernel
theorem dX10_done_91 : decode cX10_done 91 = .ok (.aload_n 2, 1) := by decide +kernel
theorem dX10_done_92 : decode cX10_done 92 = .ok (.getfield 91, 3) := by decide +kernel
theorem dX10_done_95 : decode cX10_done 95 = .ok (.iconst 1, 1) := by decide +kernel
theorem dX10_done_96 : decode cX10_done 96 = .ok (.putfield 120, 3) := by decide +kernel
theorem dX10_done_99 : decode cX10_done 99 = .ok (.aload_n 0, 1) := by decide +kernel
theorem dX10_done_100 : decode cX10_done 100 = .ok (.invokevirtual 109, 3) := by decide +kernel
theorem dX10_done_103 : decode cX10_done 103 = .ok (.ireturn, 1) := by decide +kernel
theorem dX10_plainer_0 : decode cX10_plainer 0 = .ok (.aload_n 0, 1) := by decide +kernel
theorem dX10_plainer_1 : decode cX10_plainer 1 = .ok (.getfield 12, 3) := by decide +kernel
theorem dX10_plainer_4 : decode cX10_plainer 4 = .ok (.iload_n 1, 1) := by decide +kernel
theorem dX10_plainer_5 : decode cX10_plainer 5 = .ok (.invokevirtual 116, 3) := by decide +kernel
theorem dX10_plainer_8 : decode cX10_plainer 8 = .ok (.astore_n 3, 1) := by decide +kernel
theorem dX10_plainer_9 : decode cX10_plainer 9 = .ok (.aload_n 3, 1) := by decide +kernel
theorem dX10_plainer_10 : decode cX10_plainer 10 = .ok (.ifnonnull 9, 3) := by decide +kernel
theorem dX10_plainer_13 : decode cX10_plainer 13 = .ok (.aload_n 0, 1) := by decide +kernel
theorem dX10_plainer_14 : decode cX10_plainer 14 = .ok (.iconst 1, 1) := by decide +kernel
theorem dX10_plainer_15 : decode cX10_plainer 15 = .ok (.invokevirtual 78, 3) := by decide +kernel
theorem dX10_plainer_18 : decode cX10_plainer 18 = .ok (.ireturn, 1) := by decide +kernel
theorem dX10_plainer_19 : decode cX10_plainer 19 = .ok (.aload_n 3, 1) := by decide +kernel
theorem dX10_plainer_20 : decode cX10_plainer 20 = .ok (.getfield 91, 3) := by decide +kernel
theorem dX10_plainer_23 : decode cX10_plainer 23 = .ok (.getfield 120, 3) := by decide +kernel
theorem dX10_plainer_26 : decode cX10_plainer 26 = .ok (.iconst 1, 1) := by decide +kernel
theorem dX10_plainer_27 : decode cX10_plainer 27 = .ok (.if_icmp .eq 9, 3) := by decide +kernel
theorem dX10_plainer_30 : decode cX10_plainer 30 = .ok (.aload_n 0, 1) := by decide +kernel
theorem dX10_plainer_31 : decode cX10_plainer 31 = .ok (.iconst 2, 1) := by decide +kernel
theorem dX10_plainer_32 : decode cX10_plainer 32 = .ok (.invokevirtual 78, 3) := by decide +kernel
theorem dX10_plainer_35 : decode cX10_plainer 35 = .ok (.ireturn, 1) := by decide +kernel
theorem dX10_plainer_36 : decode cX10_plainer 36 = .ok (.aload_n 3, 1) := by decide +kernel
theorem dX10_plainer_37 : decode cX10_plainer 37 = .ok (.invokevirtual 147, 3) := by decide +kernel
theorem dX10_plainer_40 : decode cX10_plainer 40 = .ok (.ifCond .ne 9, 3) := by decide +kernel
theorem dX10_plainer_43 : decode cX10_plainer 43 = .ok (.aload_n 0, 1) := by decide +kernel
theorem dX10_plainer_44 : decode cX10_plainer 44 = .ok (.iconst 3, 1) := by decide +kernel
theorem dX10_plainer_45 : decode cX10_plainer 45 = .ok (.invokevirtual 78, 3) := by decide +kernel
theorem dX10_plainer_48 : decode cX10_plainer 48 = .ok (.ireturn, 1) := by decide +kernel
theorem dX10_plainer_49 : decode cX10_plainer 49 = .ok (.iload_n 2, 1) := by decide +kernel
theorem dX10_plainer_50 : decode cX10_plainer 50 = .ok (.ifCond .ge 9, 3) := by decide +kernel
theorem dX10_plainer_53 : decode cX10_plainer 53 = .ok (.aload_n 0, 1) := by decide +kernel
theorem dX10_plainer_54 : decode cX10_plainer 54 = .ok (.iconst 4, 1) := by decide +kernel
theorem dX10_plainer_55 : decode cX10_plainer 55 = .ok (.invokevirtual 78, 3) := by decide +kernel
theorem dX10_plainer_58 : decode cX10_plainer 58 = .ok (.ireturn, 1) := by decide +kernel
theorem dX10_plainer_59 : decode cX10_plainer 59 = .ok (.aload_n 3, 1) := by decide +kernel
theorem dX10_plainer_60 : decode cX10_plainer 60 = .ok (.getfield 91, 3) := by decide +kernel
theorem dX10_plainer_63 : decode cX10_plainer 63 = .ok (.getfield 103, 3) := by decide +kernel
theorem dX10_plainer_66 : decode cX10_plainer 66 = .ok (.ifnonnull 9, 3) := by decide +kernel
theorem dX10_plainer_69 : decode cX10_plainer 69 = .ok (.aload_n 0, 1) := by decide +kernel
theorem dX10_plainer_70 : decode cX10_plainer 70 = .ok (.iconst 5, 1) := by decide +kernel
theorem dX10_plainer_71 : decode cX10_plainer 71 = .ok (.invokevirtual 78, 3) := by decide +kernel
theorem dX10_plainer_74 : decode cX10_plainer 74 = .ok (.ireturn, 1) := by decide +kernel
theorem dX10_plainer_75 : decode cX10_plainer 75 = .ok (.aload_n 0, 1) := by decide +kernel
theorem dX10_plainer_76 : decode cX10_plainer 76 = .ok (.aload_n 3, 1) := by decide +kernel
theorem dX10_plainer_77 : decode cX10_plainer 77 = .ok (.iload_n 2, 1) := by decide +kernel
theorem dX10_plainer_78 : decode cX10_plainer 78 = .ok (.invokevirtual 150, 3) := by decide +kernel
theorem dX10_plainer_81 : decode cX10_plainer 81 = .ok (.istore 4, 2) := by decide +kernel
theorem dX10_plainer_83 : decode cX10_plainer 83 = .ok (.iload 4, 2) := by decide +kernel
theorem dX10_plainer_85 : decode cX10_plainer 85 = .ok (.ifCond .ne 10, 3) := by decide +kernel
theorem dX10_plainer_88 : decode cX10_plainer 88 = .ok (.aload_n 0, 1) := by decide +kernel
theorem dX10_plainer_89 : decode cX10_plainer 89 = .ok (.bipush 8, 2) := by decide +kernel
theorem dX10_plainer_91 : decode cX10_plainer 91 = .ok (.invokevirtual 78, 3) := by decide +kernel
theorem dX10_plainer_94 : decode cX10_plainer 94 = .ok (.ireturn, 1) := by decide +kernel
theorem dX10_plainer_95 : decode cX10_plainer 95 = .ok (.aload_n 0, 1) := by decide +kernel
theorem dX10_plainer_96 : decode cX10_plainer 96 = .ok (.iconst 1, 1) := by decide +kernel
theorem dX10_plainer_97 : decode cX10_plainer 97 = .ok (.iload_n 1, 1) := by decide +kernel
theorem dX10_plainer_98 : decode cX10_plainer 98 = .ok (.iload 4, 2) := by decide +kernel
theorem dX10_plainer_100 : decode cX10_plainer 100 = .ok (.aconst_null, 1) := by decide +kernel
theorem dX10_plainer_101 : decode cX10_plainer 101 = .ok (.invokevirtual 154, 3) := by decide +kernel
theorem dX10_plainer_104 : decode cX10_plainer 104 = .ok (.pop, 1) := by decide +kernel
theorem dX10_plainer_105 : decode cX10_plainer 105 = .ok (.iload 4, 2) := by decide +kernel
theorem dX10_plainer_107 : decode cX10_plainer 107 = .ok (.ireturn, 1) := by decide +kernel
theorem dX10_smooth_0 : decode cX10_smooth 0 = .ok (.aload_n 0, 1) := by decide +kernel
theorem dX10_smooth_1 : decode cX10_smooth 1 = .ok (.getfield 12, 3) := by decide +kernel
theorem dX10_smooth_4 : decode cX10_smooth 4 = .ok (.iload_n 1, 1) := by decide +kernel
theorem dX10_smooth_5 : decode cX10_smooth 5 = .ok (.invokevirtual 116, 3) := by decide +kernel
theorem dX10_smooth_8 : decode cX10_smooth 8 = .ok (.astore_n 2, 1) := by decide +kernel
theorem dX10_smooth_9 : decode cX10_smooth 9 = .ok (.aload_n 2, 1) := by decide +kernel
theorem dX10_smooth_10 : decode cX10_smooth 10 = .ok (.ifnonnull 9, 3) := by decide +kernel
theorem dX10_smooth_13 : decode cX10_smooth 13 = .ok (.aload_n 0, 1) := by decide +kernel
theorem dX10_smooth_14 : decode cX10_smooth 14 = .ok (.iconst 1, 1) := by decide +kernel
theorem dX10_smooth_15 : decode cX10_smooth 15 = .ok (.invokevirtual 137, 3) := by decide +kernel
theorem dX10_smooth_18 : decode cX10_smooth 18 = .ok (.ireturn, 1) := by decide +kernel
theorem dX10_smooth_19 : decode cX10_smooth 19 = .ok (.aload_n 2, 1) := by decide +kernel
theorem dX10_smooth_20 : decode cX10_smooth 20 = .ok (.getfield 91, 3) := by decide +kernel
theorem dX10_smooth_23 : decode cX10_smooth 23 = .ok (.getfield 120, 3) := by decide +kernel
theorem dX10_smooth_26 : decode cX10_smooth 26 = .ok (.iconst 1, 1) := by decide +kernel
theorem dX10_smooth_27 : decode cX10_smooth 27 = .ok (.if_icmp .eq 9, 3) := by decide +kernel
theorem dX10_smooth_30 : decode cX10_smooth 30 = .ok (.aload_n 0, 1) := by decide +kernel
theorem dX10_smooth_31 : decode cX10_smooth 31 = .ok (.iconst 2, 1) := by decide +kernel
theorem dX10_smooth_32 : decode cX10_smooth 32 = .ok (.invokevirtual 137, 3) := by decide +kernel
theorem dX10_smooth_35 : decode cX10_smooth 35 = .ok (.ireturn, 1) := by decide +kernel
theorem dX10_smooth_36 : decode cX10_smooth 36 = .ok (.aload_n 2, 1) := by decide +kernel
theorem dX10_smooth_37 : decode cX10_smooth 37 = .ok (.invokevirtual 147, 3) := by decide +kernel
theorem dX10_smooth_40 : decode cX10_smooth 40 = .ok (.ifCond .ne 9, 3) := by decide +kernel
theorem dX10_smooth_43 : decode cX10_smooth 43 = .ok (.aload_n 0, 1) := by decide +kernel
theorem dX10_smooth_44 : decode cX10_smooth 44 = .ok (.iconst 3, 1) := by decide +kernel
theorem dX10_smooth_45 : decode cX10_smooth 45 = .ok (.invokevirtual 137, 3) := by decide +kernel
theorem dX10_smooth_48 : decode cX10_smooth 48 = .ok (.ireturn, 1) := by decide +kernel
theorem dX10_smooth_49 : decode cX10_smooth 49 = .ok (.aload_n 2, 1) := by decide +kernel
theorem dX10_smooth_50 : decode cX10_smooth 50 = .ok (.getfield 91, 3) := by decide +kernel
theorem dX10_smooth_53 : decode cX10_smooth 53 = .ok (.getfield 103, 3) := by decide +kernel
theorem dX10_smooth_56 : decode cX10_smooth 56 = .ok (.astore_n 3, 1) := by decide +kernel
theorem dX10_smooth_57 : decode cX10_smooth 57 = .ok (.aload_n 3, 1) := by decide +kernel
theorem dX10_smooth_58 : decode cX10_smooth 58 = .ok (.ifnonnull 9, 3) := by decide +kernel
theorem dX10_smooth_61 : decode cX10_smooth 61 = .ok (.aload_n 0, 1) := by decide +kernel
theorem dX10_smooth_62 : decode cX10_smooth 62 = .ok (.iconst 5, 1) := by decide +kernel
theorem dX10_smooth_63 : decode cX10_smooth 63 = .ok (.invokevirtual 137, 3) := by decide +kernel
theorem dX10_smooth_66 : decode cX10_smooth 66 = .ok (.ireturn, 1) := by decide +kernel
theorem dX10_smooth_67 : decode cX10_smooth 67 = .ok (.aload_n 0, 1) := by decide +kernel
theorem dX10_smooth_68 : decode cX10_smooth 68 = .ok (.getfield 19, 3) := by decide +kernel
theorem dX10_smooth_71 : decode cX10_smooth 71 = .ok (.getfield 158, 3) := by decide +kernel
theorem dX10_smooth_74 : decode cX10_smooth 74 = .ok (.aload_n 3, 1) := by decide +kernel
theorem dX10_smooth_75 : decode cX10_smooth 75 = .ok (.invokevirtual 161, 3) := by decide +kernel
theorem dX10_smooth_78 : decode cX10_smooth 78 = .ok (.aload_n 0, 1) := by decide +kernel
theorem dX10_smooth_79 : decode cX10_smooth 79 = .ok (.aload_n 2, 1) := by decide +kernel
theorem dX10_smooth_80 : decode cX10_smooth 80 = .ok (.iload_n 1, 1) := by decide +kernel
theorem dX10_smooth_81 : decode cX10_smooth 81 = .ok (.iconst 2, 1) := by decide +kernel
theorem dX10_smooth_82 : decode cX10_smooth 82 = .ok (.invokevirtual 165, 3) := by decide +kernel
theorem dX10_smooth_85 : decode cX10_smooth 85 = .ok (.ireturn, 1) := by decide +kernel
theorem dX10_shift_0 : decode cX10_shift 0 = .ok (.aload_n 0, 1) := by decide +kernel
theorem dX10_shift_1 : decode cX10_shift 1 = .ok (.getfield 12, 3) := by decide +kernel
theorem dX10_shift_4 : decode cX10_shift 4 = .ok (.iload_n 1, 1) := by decide +kernel
theorem dX10_shift_5 : decode cX10_shift 5 = .ok (.invokevirtual 116, 3) := by decide +kernel
theorem dX10_shift_8 : decode cX10_shift 8 = .ok (.astore 6, 2) := by decide +kernel
theorem dX10_shift_10 : decode cX10_shift 10 = .ok (.aload 6, 2) := by decide +kernel
theorem dX10_shift_12 : decode cX10_shift 12 = .ok (.ifnull 12, 3) := by decide +kernel
theorem dX10_shift_15 : decode cX10_shift 15 = .ok (.aload 6, 2) := by decide +kernel
theorem dX10_shift_17 : decode cX10_shift 17 = .ok (.iload_n 2, 1) := by decide +kernel
theorem dX10_shift_18 : decode cX10_shift 18 = .ok (.invokevirtual 169, 3) := by decide +kernel
theorem dX10_shift_21 : decode cX10_shift 21 = .ok (.ifCond .ne 9, 3) := by decide +kernel
theorem dX10_shift_24 : decode cX10_shift 24 = .ok (.aload_n 0, 1) := by decide +kernel
theorem dX10_shift_25 : decode cX10_shift 25 = .ok (.iconst 1, 1) := by decide +kernel
theorem dX10_shift_26 : decode cX10_shift 26 = .ok (.invokevirtual 137, 3) := by decide +kernel
theorem dX10_shift_29 : decode cX10_shift 29 = .ok (.ireturn, 1) := by decide +kernel
theorem dX10_shift_30 : decode cX10_shift 30 = .ok (.aload 6, 2) := by decide +kernel
theorem dX10_shift_32 : decode cX10_shift 32 = .ok (.getfield 91, 3) := by decide +kernel
theorem dX10_shift_35 : decode cX10_shift 35 = .ok (.getfield 120, 3) := by decide +kernel
theorem dX10_shift_38 : decode cX10_shift 38 = .ok (.iconst 1, 1) := by decide +kernel
theorem dX10_shift_39 : decode cX10_shift 39 = .ok (.if_icmp .eq 9, 3) := by decide +kernel
theorem dX10_shift_42 : decode cX10_shift 42 = .ok (.aload_n 0, 1) := by decide +kernel
theorem dX10_shift_43 : decode cX10_shift 43 = .ok (.iconst 2, 1) := by decide +kernel
theorem dX10_shift_44 : decode cX10_shift 44 = .ok (.invokevirtual 137, 3) := by decide +kernel
theorem dX10_shift_47 : decode cX10_shift 47 = .ok (.ireturn, 1) := by decide +kernel
theorem dX10_shift_48 : decode cX10_shift 48 = .ok (.iload_n 3, 1) := by decide +kernel
theorem dX10_shift_49 : decode cX10_shift 49 = .ok (.sipush (-200), 3) := by decide +kernel
theorem dX10_shift_52 : decode cX10_shift 52 = .ok (.sipush 200, 3) := by decide +kernel
theorem dX10_shift_55 : decode cX10_shift 55 = .ok (.invokestatic 74, 3) := by decide +kernel
theorem dX10_shift_58 : decode cX10_shift 58 = .ok (.ifCond .eq 17, 3) := by decide +kernel
theorem dX10_shift_61 : decode cX10_shift 61 = .ok (.iload 4, 2) := by decide +kernel
theorem dX10_shift_63 : decode cX10_shift 63 = .ok (.sipush (-200), 3) := by decide +kernel
theorem dX10_shift_66 : decode cX10_shift 66 = .ok (.sipush 200, 3) := by decide +kernel
theorem dX10_shift_69 : decode cX10_shift 69 = .ok (.invokestatic 74, 3) := by decide +kernel
theorem dX10_shift_72 : decode cX10_shift 72 = .ok (.ifCond .ne 9, 3) := by decide +kernel
theorem dX10_shift_75 : decode cX10_shift 75 = .ok (.aload_n 0, 1) := by decide +kernel
theorem dX10_shift_76 : decode cX10_shift 76 = .ok (.iconst 4, 1) := by decide +kernel
theorem dX10_shift_77 : decode cX10_shift 77 = .ok (.invokevirtual 137, 3) := by decide +kernel
theorem dX10_shift_80 : decode cX10_shift 80 = .ok (.ireturn, 1) := by decide +kernel
theorem dX10_shift_81 : decode cX10_shift 81 = .ok (.iload 5, 2) := by decide +kernel
theorem dX10_shift_83 : decode cX10_shift 83 = .ok (.iconst 0, 1) := by decide +kernel
theorem dX10_shift_84 : decode cX10_shift 84 = .ok (.bipush 20, 2) := by decide +kernel
theorem dX10_shift_86 : decode cX10_shift 86 = .ok (.invokestatic 74, 3) := by decide +kernel
theorem dX10_shift_89 : decode cX10_shift 89 = .ok (.ifCond .ne 9, 3) := by decide +kernel
theorem dX10_shift_92 : decode cX10_shift 92 = .ok (.aload_n 0, 1) := by decide +kernel
theorem dX10_shift_93 : decode cX10_shift 93 = .ok (.iconst 4, 1) := by decide +kernel
theorem dX10_shift_94 : decode cX10_shift 94 = .ok (.invokevirtual 137, 3) := by decide +kernel
theorem dX10_shift_97 : decode cX10_shift 97 = .ok (.ireturn, 1) := by decide +kernel
theorem dX10_shift_98 : decode cX10_shift 98 = .ok (.aload 6, 2) := by decide +kernel
theorem dX10_shift_100 : decode cX10_shift 100 = .ok (.getfield 91, 3) := by decide +kernel
theorem dX10_shift_103 : decode cX10_shift 103 = .ok (.getfield 103, 3) := by decide +kernel
theorem dX10_shift_106 : decode cX10_shift 106 = .ok (.astore 7, 2) := by decide +kernel
theorem dX10_shift_108 : decode cX10_shift 108 = .ok (.aload 7, 2) := by decide +kernel
theorem dX10_shift_110 : decode cX10_shift 110 = .ok (.ifnonnull 9, 3) := by decide +kernel
theorem dX10_shift_113 : decode cX10_shift 113 = .ok (.aload_n 0, 1) := by decide +kernel
theorem dX10_shift_114 : decode cX10_shift 114 = .ok (.iconst 5, 1) := by decide +kernel
theorem dX10_shift_115 : decode cX10_shift 115 = .ok (.invokevirtual 137, 3) := by decide +kernel
theorem dX10_shift_118 : decode cX10_shift 118 = .ok (.ireturn, 1) := by decide +kernel
theorem dX10_shift_119 : decode cX10_shift 119 = .ok (.aload_n 0, 1) := by decide +kernel
theorem dX10_shift_120 : decode cX10_shift 120 = .ok (.getfield 19, 3) := by decide +kernel
theorem dX10_shift_123 : decode cX10_shift 123 = .ok (.getfield 158, 3) := by decide +kernel
theorem dX10_shift_126 : decode cX10_shift 126 = .ok (.aload 7, 2) := by decide +kernel
theorem dX10_shift_128 : decode cX10_shift 128 = .ok (.invokevirtual 172, 3) := by decide +kernel
theorem dX10_shift_131 : decode cX10_shift 131 = .ok (.aload 6, 2) := by decide +kernel
theorem dX10_shift_133 : decode cX10_shift 133 = .ok (.invokevirtual 147, 3) := by decide +kernel
theorem dX10_shift_136 : decode cX10_shift 136 = .ok (.ifCond .eq 22, 3) := by decide +kernel
theorem dX10_shift_139 : decode cX10_shift 139 = .ok (.aload_n 0, 1) := by decide +kernel
theorem dX10_shift_140 : decode cX10_shift 140 = .ok (.getfield 19, 3) := by decide +kernel
theorem dX10_shift_143 : decode cX10_shift 143 = .ok (.getfield 158, 3) := by decide +kernel
theorem dX10_shift_146 : decode cX10_shift 146 = .ok (.iload_n 2, 1) := by decide +kernel
theorem dX10_shift_147 : decode cX10_shift 147 = .ok (.iload_n 3, 1) := by decide +kernel
theorem dX10_shift_148 : decode cX10_shift 148 = .ok (.iload 4, 2) := by decide +kernel
theorem dX10_shift_150 : decode cX10_shift 150 = .ok (.iload 5, 2) := by decide +kernel
theorem dX10_shift_152 : decode cX10_shift 152 = .ok (.invokevirtual 175, 3) := by decide +kernel
theorem dX10_shift_155 : decode cX10_shift 155 = .ok (.goto 16, 3) := by decide +kernel
theorem dX10_shift_158 : decode cX10_shift 158 = .ok (.aload_n 0, 1) := by decide +kernel
theorem dX10_shift_159 : decode cX10_shift 159 = .ok (.getfield 19, 3) := by decide +kernel
theorem dX10_shift_162 : decode cX10_shift 162 = .ok (.getfield 158, 3) := by decide +kernel
theorem dX10_shift_165 : decode cX10_shift 165 = .ok (.iload_n 3, 1) := by decide +kernel
theorem dX10_shift_166 : decode cX10_shift 166 = .ok (.iload 4, 2) := by decide +kernel
theorem dX10_shift_168 : decode cX10_shift 168 = .ok (.invokevirtual 178, 3) := by decide +kernel
theorem dX10_shift_171 : decode cX10_shift 171 = .ok (.aload_n 0, 1) := by decide +kernel
theorem dX10_shift_172 : decode cX10_shift 172 = .ok (.aload 6, 2) := by decide +kernel
theorem dX10_shift_174 : decode cX10_shift 174 = .ok (.iload_n 1, 1) := by decide +kernel
theorem dX10_shift_175 : decode cX10_shift 175 = .ok (.iconst 3, 1) := by decide +kernel
theorem dX10_shift_176 : decode cX10_shift 176 = .ok (.invokevirtual 165, 3) := by decide +kernel
theorem dX10_shift_179 : decode cX10_shift 179 = .ok (.ireturn, 1) := by decide +kernel
theorem dX10_grow_0 : decode cX10_grow 0 = .ok (.aload_n 0, 1) := by decide +kernel
theorem dX10_grow_1 : decode cX10_grow 1 = .ok (.getfield 12, 3) := by decide +kernel
theorem dX10_grow_4 : decode cX10_grow 4 = .ok (.iload_n 1, 1) := by decide +kernel
theorem dX10_grow_5 : decode cX10_grow 5 = .ok (.invokevirtual 116, 3) := by decide +kernel
theorem dX10_grow_8 : decode cX10_grow 8 = .ok (.astore_n 2, 1) := by decide +kernel
theorem dX10_grow_9 : decode cX10_grow 9 = .ok (.aload_n 2, 1) := by decide +kernel
theorem dX10_grow_10 : decode cX10_grow 10 = .ok (.ifnonnull 9, 3) := by decide +kernel
theorem dX10_grow_13 : decode cX10_grow 13 = .ok (.aload_n 0, 1) := by decide +kernel
theorem dX10_grow_14 : decode cX10_grow 14 = .ok (.iconst 1, 1) := by decide +kernel
theorem dX10_grow_15 : decode cX10_grow 15 = .ok (.invokevirtual 137, 3) := by decide +kernel
theorem dX10_grow_18 : decode cX10_grow 18 = .ok (.ireturn, 1) := by decide +kernel
theorem dX10_grow_19 : decode cX10_grow 19 = .ok (.aload_n 2, 1) := by decide +kernel
theorem dX10_grow_20 : decode cX10_grow 20 = .ok (.getfield 91, 3) := by decide +kernel
theorem dX10_grow_23 : decode cX10_grow 23 = .ok (.getfield 120, 3) := by decide +kernel
theorem dX10_grow_26 : decode cX10_grow 26 = .ok (.iconst 1, 1) := by decide +kernel
theorem dX10_grow_27 : decode cX10_grow 27 = .ok (.if_icmp .eq 9, 3) := by decide +kernel
theorem dX10_grow_30 : decode cX10_grow 30 = .ok (.aload_n 0, 1) := by decide +kernel
theorem dX10_grow_31 : decode cX10_grow 31 = .ok (.iconst 2, 1) := by decide +kernel
theorem dX10_grow_32 : decode cX10_grow 32 = .ok (.invokevirtual 137, 3) := by decide +kernel
theorem dX10_grow_35 : decode cX10_grow 35 = .ok (.ireturn, 1) := by decide +kernel
theorem dX10_grow_36 : decode cX10_grow 36 = .ok (.aload_n 2, 1) := by decide +kernel
theorem dX10_grow_37 : decode cX10_grow 37 = .ok (.getfield 91, 3) := by decide +kernel
theorem dX10_grow_40 : decode cX10_grow 40 = .ok (.getfield 130, 3) := by decide +kernel
theorem dX10_grow_43 : decode cX10_grow 43 = .ok (.bipush 6, 2) := by decide +kernel
theorem dX10_grow_45 : decode cX10_grow 45 = .ok (.if_icmp .eq 9, 3) := by decide +kernel
theorem dX10_grow_48 : decode cX10_grow 48 = .ok (.aload_n 0, 1) := by decide +kernel
theorem dX10_grow_49 : decode cX10_grow 49 = .ok (.iconst 3, 1) := by decide +kernel
theorem dX10_grow_50 : decode cX10_grow 50 = .ok (.invokevirtual 137, 3) := by decide +kernel
theorem dX10_grow_53 : decode cX10_grow 53 = .ok (.ireturn, 1) := by decide +kernel
theorem dX10_grow_54 : decode cX10_grow 54 = .ok (.aload_n 2, 1) := by decide +kernel
theorem dX10_grow_55 : decode cX10_grow 55 = .ok (.getfield 91, 3) := by decide +kernel
theorem dX10_grow_58 : decode cX10_grow 58 = .ok (.getfield 103, 3) := by decide +kernel
theorem dX10_grow_61 : decode cX10_grow 61 = .ok (.astore_n 3, 1) := by decide +kernel
theorem dX10_grow_62 : decode cX10_grow 62 = .ok (.aload_n 3, 1) := by decide +kernel
theorem dX10_grow_63 : decode cX10_grow 63 = .ok (.ifnonnull 9, 3) := by decide +kernel
theorem dX10_grow_66 : decode cX10_grow 66 = .ok (.aload_n 0, 1) := by decide +kernel
theorem dX10_grow_67 : decode cX10_grow 67 = .ok (.iconst 5, 1) := by decide +kernel
theorem dX10_grow_68 : decode cX10_grow 68 = .ok (.invokevirtual 137, 3) := by decide +kernel
theorem dX10_grow_71 : decode cX10_grow 71 = .ok (.ireturn, 1) := by decide +kernel
theorem dX10_grow_72 : decode cX10_grow 72 = .ok (.aload_n 0, 1) := by decide +kernel
theorem dX10_grow_73 : decode cX10_grow 73 = .ok (.getfield 19, 3) := by decide +kernel
theorem dX10_grow_76 : decode cX10_grow 76 = .ok (.getfield 158, 3) := by decide +kernel
theorem dX10_grow_79 : decode cX10_grow 79 = .ok (.aload_n 3, 1) := by decide +kernel
theorem dX10_grow_80 : decode cX10_grow 80 = .ok (.invokevirtual 181, 3) := by decide +kernel
theorem dX10_grow_83 : decode cX10_grow 83 = .ok (.aload_n 0, 1) := by decide +kernel
theorem dX10_grow_84 : decode cX10_grow 84 = .ok (.aload_n 2, 1) := by decide +kernel
theorem dX10_grow_85 : decode cX10_grow 85 = .ok (.iload_n 1, 1) := by decide +kernel
theorem dX10_grow_86 : decode cX10_grow 86 = .ok (.iconst 4, 1) := by decide +kernel
theorem dX10_grow_87 : decode cX10_grow 87 = .ok (.invokevirtual 165, 3) := by decide +kernel
theorem dX10_grow_90 : decode cX10_grow 90 = .ok (.ireturn, 1) := by decide +kernel
theorem dX10_square_0 : decode cX10_square 0 = .ok (.aload_n 0, 1) := by decide +kernel
theorem dX10_square_1 : decode cX10_square 1 = .ok (.getfield 12, 3) := by decide +kernel
theorem dX10_square_4 : decode cX10_square 4 = .ok (.iload_n 1, 1) := by decide +kernel
theorem dX10_square_5 : decode cX10_square 5 = .ok (.invokevirtual 116, 3) := by decide +kernel
theorem dX10_square_8 : decode cX10_square 8 = .ok (.astore_n 3, 1) := by decide +kernel
theorem dX10_square_9 : decode cX10_square 9 = .ok (.aload_n 3, 1) := by decide +kernel
theorem dX10_square_10 : decode cX10_square 10 = .ok (.ifnonnull 9, 3) := by decide +kernel
theorem dX10_square_13 : decode cX10_square 13 = .ok (.aload_n 0, 1) := by decide +kernel
theorem dX10_square_14 : decode cX10_square 14 = .ok (.iconst 1, 1) := by decide +kernel
theorem dX10_square_15 : decode cX10_square 15 = .ok (.invokevirtual 137, 3) := by decide +kernel
theorem dX10_square_18 : decode cX10_square 18 = .ok (.ireturn, 1) := by decide +kernel
theorem dX10_square_19 : decode cX10_square 19 = .ok (.aload_n 3, 1) := by decide +kernel
theorem dX10_square_20 : decode cX10_square 20 = .ok (.getfield 91, 3) := by decide +kernel
theorem dX10_square_23 : decode cX10_square 23 = .ok (.getfield 120, 3) := by decide +kernel
theorem dX10_square_26 : decode cX10_square 26 = .ok (.iconst 1, 1) := by decide +kernel
theorem dX10_square_27 : decode cX10_square 27 = .ok (.if_icmp .eq 9, 3) := by decide +kernel
theorem dX10_square_30 : decode cX10_square 30 = .ok (.aload_n 0, 1) := by decide +kernel
theorem dX10_square_31 : decode cX10_square 31 = .ok (.iconst 2, 1) := by decide +kernel
theorem dX10_square_32 : decode cX10_square 32 = .ok (.invokevirtual 137, 3) := by decide +kernel
theorem dX10_square_35 : decode cX10_square 35 = .ok (.ireturn, 1) := by decide +kernel
theorem dX10_square_36 : decode cX10_square 36 = .ok (.aload_n 3, 1) := by decide +kernel
theorem dX10_square_37 : decode cX10_square 37 = .ok (.getfield 91, 3) := by decide +kernel
theorem dX10_square_40 : decode cX10_square 40 = .ok (.getfield 130, 3) := by decide +kernel
theorem dX10_square_43 : decode cX10_square 43 = .ok (.iconst 5, 1) := by decide +kernel
theorem dX10_square_44 : decode cX10_square 44 = .ok (.if_icmp .eq 9, 3) := by decide +kernel
theorem dX10_square_47 : decode cX10_square 47 = .ok (.aload_n 0, 1) := by decide +kernel
theorem dX10_square_48 : decode cX10_square 48 = .ok (.iconst 3, 1) := by decide +kernel
theorem dX10_square_49 : decode cX10_square 49 = .ok (.invokevirtual 137, 3) := by decide +kernel
theorem dX10_square_52 : decode cX10_square 52 = .ok (.ireturn, 1) := by decide +kernel
theorem dX10_square_53 : decode cX10_square 53 = .ok (.iload_n 2, 1) := by decide +kernel
theorem dX10_square_54 : decode cX10_square 54 = .ok (.ifCond .ge 9, 3) := by decide +kernel
theorem dX10_square_57 : decode cX10_square 57 = .ok (.aload_n 0, 1) := by decide +kernel
theorem dX10_square_58 : decode cX10_square 58 = .ok (.iconst 4, 1) := by decide +kernel
theorem dX10_square_59 : decode cX10_square 59 = .ok (.invokevirtual 137, 3) := by decide +kernel
theorem dX10_square_62 : decode cX10_square 62 = .ok (.ireturn, 1) := by decide +kernel
theorem dX10_square_63 : decode cX10_square 63 = .ok (.aload_n 3, 1) := by decide +kernel
theorem dX10_square_64 : decode cX10_square 64 = .ok (.getfield 91, 3) := by decide +kernel
theorem dX10_square_67 : decode cX10_square 67 = .ok (.getfield 103, 3) := by decide +kernel
theorem dX10_square_70 : decode cX10_square 70 = .ok (.astore 4, 2) := by decide +kernel
theorem dX10_square_72 : decode cX10_square 72 = .ok (.aload 4, 2) := by decide +kernel
theorem dX10_square_74 : decode cX10_square 74 = .ok (.ifnonnull 9, 3) := by decide +kernel
theorem dX10_square_77 : decode cX10_square 77 = .ok (.aload_n 0, 1) := by decide +kernel
theorem dX10_square_78 : decode cX10_square 78 = .ok (.iconst 5, 1) := by decide +kernel
theorem dX10_square_79 : decode cX10_square 79 = .ok (.invokevirtual 137, 3) := by decide +kernel
theorem dX10_square_82 : decode cX10_square 82 = .ok (.ireturn, 1) := by decide +kernel
theorem dX10_square_83 : decode cX10_square 83 = .ok (.aload_n 0, 1) := by decide +kernel
theorem dX10_square_84 : decode cX10_square 84 = .ok (.getfield 33, 3) := by decide +kernel
theorem dX10_square_87 : decode cX10_square 87 = .ok (.aload 4, 2) := by decide +kernel
theorem dX10_square_89 : decode cX10_square 89 = .ok (.invokevirtual 184, 3) := by decide +kernel
theorem dX10_square_92 : decode cX10_square 92 = .ok (.aload_n 0, 1) := by decide +kernel
theorem dX10_square_93 : decode cX10_square 93 = .ok (.getfield 19, 3) := by decide +kernel
theorem dX10_square_96 : decode cX10_square 96 = .ok (.getfield 158, 3) := by decide +kernel
theorem dX10_square_99 : decode cX10_square 99 = .ok (.aload_n 0, 1) := by decide +kernel
theorem dX10_square_100 : decode cX10_square 100 = .ok (.getfield 33, 3) := by decide +kernel
theorem dX10_square_103 : decode cX10_square 103 = .ok (.invokevirtual 187, 3) := by decide +kernel
theorem dX10_square_106 : decode cX10_square 106 = .ok (.aload_n 0, 1) := by decide +kernel
theorem dX10_square_107 : decode cX10_square 107 = .ok (.getfield 19, 3) := by decide +kernel
theorem dX10_square_110 : decode cX10_square 110 = .ok (.getfield 158, 3) := by decide +kernel
theorem dX10_square_113 : decode cX10_square 113 = .ok (.invokevirtual 191, 3) := by decide +kernel
theorem dX10_square_116 : decode cX10_square 116 = .ok (.aload 4, 2) := by decide +kernel
theorem dX10_square_118 : decode cX10_square 118 = .ok (.invokevirtual 191, 3) := by decide +kernel
theorem dX10_square_121 : decode cX10_square 121 = .ok (.isub, 1) := by decide +kernel
theorem dX10_square_122 : decode cX10_square 122 = .ok (.iload_n 2, 1) := by decide +kernel
theorem dX10_square_123 : decode cX10_square 123 = .ok (.if_icmp .le 9, 3) := by decide +kernel
theorem dX10_square_126 : decode cX10_square 126 = .ok (.aload_n 0, 1) := by decide +kernel
theorem dX10_square_127 : decode cX10_square 127 = .ok (.iconst 4, 1) := by decide +kernel
theorem dX10_square_128 : decode cX10_square 128 = .ok (.invokevirtual 137, 3) := by decide +kernel
theorem dX10_square_131 : decode cX10_square 131 = .ok (.ireturn, 1) := by decide +kernel
theorem dX10_square_132 : decode cX10_square 132 = .ok (.aload_n 0, 1) := by decide +kernel
theorem dX10_square_133 : decode cX10_square 133 = .ok (.getfield 19, 3) := by decide +kernel
theorem dX10_square_136 : decode cX10_square 136 = .ok (.aload_n 0, 1) := by decide +kernel
theorem dX10_square_137 : decode cX10_square 137 = .ok (.getfield 12, 3) := by decide +kernel
theorem dX10_square_140 : decode cX10_square 140 = .ok (.aload_n 3, 1) := by decide +kernel
theorem dX10_square_141 : decode cX10_square 141 = .ok (.bipush (-2), 2) := by decide +kernel
theorem dX10_square_143 : decode cX10_square 143 = .ok (.invokevirtual 195, 3) := by decide +kernel
theorem dX10_square_146 : decode cX10_square 146 = .ok (.ifCond .ne 10, 3) := by decide +kernel
theorem dX10_square_149 : decode cX10_square 149 = .ok (.aload_n 0, 1) := by decide +kernel
theorem dX10_square_150 : decode cX10_square 150 = .ok (.bipush 7, 2) := by decide +kernel
theorem dX10_square_152 : decode cX10_square 152 = .ok (.invokevirtual 137, 3) := by decide +kernel
theorem dX10_square_155 : decode cX10_square 155 = .ok (.ireturn, 1) := by decide +kernel
theorem dX10_square_156 : decode cX10_square 156 = .ok (.aload_n 3, 1) := by decide +kernel
theorem dX10_square_157 : decode cX10_square 157 = .ok (.aload_n 0, 1) := by decide +kernel
theorem dX10_square_158 : decode cX10_square 158 = .ok (.getfield 19, 3) := by decide +kernel
theorem dX10_square_161 : decode cX10_square 161 = .ok (.getfield 158, 3) := by decide +kernel
theorem dX10_square_164 : decode cX10_square 164 = .ok (.invokevirtual 199, 3) := by decide +kernel
theorem dX10_square_167 : decode cX10_square 167 = .ok (.aload_n 3, 1) := by decide +kernel
theorem dX10_square_168 : decode cX10_square 168 = .ok (.getfield 91, 3) := by decide +kernel
theorem dX10_square_171 : decode cX10_square 171 = .ok (.bipush 6, 2) := by decide +kernel
theorem dX10_square_173 : decode cX10_square 173 = .ok (.putfield 130, 3) := by decide +kernel
theorem dX10_square_176 : decode cX10_square 176 = .ok (.aload_n 0, 1) := by decide +kernel
theorem dX10_square_177 : decode cX10_square 177 = .ok (.iconst 5, 1) := by decide +kernel
theorem dX10_square_178 : decode cX10_square 178 = .ok (.iload_n 1, 1) := by decide +kernel
theorem dX10_square_179 : decode cX10_square 179 = .ok (.iconst 0, 1) := by decide +kernel
theorem dX10_square_180 : decode cX10_square 180 = .ok (.aconst_null, 1) := by decide +kernel
theorem dX10_square_181 : decode cX10_square 181 = .ok (.invokevirtual 154, 3) := by decide +kernel
theorem dX10_square_184 : decode cX10_square 184 = .ok (.ireturn, 1) := by decide +kernel
theorem dX10_join_0 : decode cX10_join 0 = .ok (.aload_n 0, 1) := by decide +kernel
theorem dX10_join_1 : decode cX10_join 1 = .ok (.getfield 12, 3) := by decide +kernel
theorem dX10_join_4 : decode cX10_join 4 = .ok (.iload_n 1, 1) := by decide +kernel
theorem dX10_join_5 : decode cX10_join 5 = .ok (.invokevirtual 116, 3) := by decide +kernel
theorem dX10_join_8 : decode cX10_join 8 = .ok (.astore 4, 2) := by decide +kernel
theorem dX10_join_10 : decode cX10_join 10 = .ok (.aload_n 0, 1) := by decide +kernel
theorem dX10_join_11 : decode cX10_join 11 = .ok (.getfield 12, 3) := by decide +kernel
theorem dX10_join_14 : decode cX10_join 14 = .ok (.iload_n 2, 1) := by decide +kernel
theorem dX10_join_15 : decode cX10_join 15 = .ok (.invokevirtual 116, 3) := by decide +kernel
theorem dX10_join_18 : decode cX10_join 18 = .ok (.astore 5, 2) := by decide +kernel
theorem dX10_join_20 : decode cX10_join 20 = .ok (.aload 4, 2) := by decide +kernel
theorem dX10_join_22 : decode cX10_join 22 = .ok (.ifnull 8, 3) := by decide +kernel
theorem dX10_join_25 : decode cX10_join 25 = .ok (.aload 5, 2) := by decide +kernel
theorem dX10_join_27 : decode cX10_join 27 = .ok (.ifnonnull 9, 3) := by decide +kernel
theorem dX10_join_30 : decode cX10_join 30 = .ok (.aload_n 0, 1) := by decide +kernel
theorem dX10_join_31 : decode cX10_join 31 = .ok (.iconst 1, 1) := by decide +kernel
theorem dX10_join_32 : decode cX10_join 32 = .ok (.invokevirtual 78, 3) := by decide +kernel
theorem dX10_join_35 : decode cX10_join 35 = .ok (.ireturn, 1) := by decide +kernel
theorem dX10_join_36 : decode cX10_join 36 = .ok (.aload 4, 2) := by decide +kernel
theorem dX10_join_38 : decode cX10_join 38 = .ok (.getfield 91, 3) := by decide +kernel
theorem dX10_join_41 : decode cX10_join 41 = .ok (.getfield 120, 3) := by decide +kernel
theorem dX10_join_44 : decode cX10_join 44 = .ok (.iconst 1, 1) := by decide +kernel
theorem dX10_join_45 : decode cX10_join 45 = .ok (.if_icmp .ne 15, 3) := by decide +kernel
theorem dX10_join_48 : decode cX10_join 48 = .ok (.aload 5, 2) := by decide +kernel
theorem dX10_join_50 : decode cX10_join 50 = .ok (.getfield 91, 3) := by decide +kernel
theorem dX10_join_53 : decode cX10_join 53 = .ok (.getfield 120, 3) := by decide +kernel
theorem dX10_join_56 : decode cX10_join 56 = .ok (.iconst 1, 1) := by decide +kernel
theorem dX10_join_57 : decode cX10_join 57 = .ok (.if_icmp .eq 9, 3) := by decide +kernel
theorem dX10_join_60 : decode cX10_join 60 = .ok (.aload_n 0, 1) := by decide +kernel
theorem dX10_join_61 : decode cX10_join 61 = .ok (.iconst 2, 1) := by decide +kernel
theorem dX10_join_62 : decode cX10_join 62 = .ok (.invokevirtual 78, 3) := by decide +kernel
theorem dX10_join_65 : decode cX10_join 65 = .ok (.ireturn, 1) := by decide +kernel
theorem dX10_join_66 : decode cX10_join 66 = .ok (.aload 4, 2) := by decide +kernel
theorem dX10_join_68 : decode cX10_join 68 = .ok (.getfield 91, 3) := by decide +kernel
theorem dX10_join_71 : decode cX10_join 71 = .ok (.getfield 130, 3) := by decide +kernel
theorem dX10_join_74 : decode cX10_join 74 = .ok (.bipush 6, 2) := by decide +kernel
theorem dX10_join_76 : decode cX10_join 76 = .ok (.if_icmp .ne 16, 3) := by decide +kernel
theorem dX10_join_79 : decode cX10_join 79 = .ok (.aload 5, 2) := by decide +kernel
theorem dX10_join_81 : decode cX10_join 81 = .ok (.getfield 91, 3) := by decide +kernel
theorem dX10_join_84 : decode cX10_join 84 = .ok (.getfield 130, 3) := by decide +kernel
theorem dX10_join_87 : decode cX10_join 87 = .ok (.bipush 6, 2) := by decide +kernel
theorem dX10_join_89 : decode cX10_join 89 = .ok (.if_icmp .eq 9, 3) := by decide +kernel
theorem dX10_join_92 : decode cX10_join 92 = .ok (.aload_n 0, 1) := by decide +kernel
theorem dX10_join_93 : decode cX10_join 93 = .ok (.iconst 3, 1) := by decide +kernel
theorem dX10_join_94 : decode cX10_join 94 = .ok (.invokevirtual 78, 3) := by decide +kernel
theorem dX10_join_97 : decode cX10_join 97 = .ok (.ireturn, 1) := by decide +kernel
theorem dX10_join_98 : decode cX10_join 98 = .ok (.iload_n 3, 1) := by decide +kernel
theorem dX10_join_99 : decode cX10_join 99 = .ok (.iconst 0, 1) := by decide +kernel
theorem dX10_join_100 : decode cX10_join 100 = .ok (.sipush 1000, 3) := by decide +kernel
theorem dX10_join_103 : decode cX10_join 103 = .ok (.invokestatic 74, 3) := by decide +kernel
theorem dX10_join_106 : decode cX10_join 106 = .ok (.ifCond .ne 9, 3) := by decide +kernel
theorem dX10_join_109 : decode cX10_join 109 = .ok (.aload_n 0, 1) := by decide +kernel
theorem dX10_join_110 : decode cX10_join 110 = .ok (.iconst 4, 1) := by decide +kernel
theorem dX10_join_111 : decode cX10_join 111 = .ok (.invokevirtual 78, 3) := by decide +kernel
theorem dX10_join_114 : decode cX10_join 114 = .ok (.ireturn, 1) := by decide +kernel
theorem dX10_join_115 : decode cX10_join 115 = .ok (.aload 4, 2) := by decide +kernel
theorem dX10_join_117 : decode cX10_join 117 = .ok (.getfield 91, 3) := by decide +kernel
theorem dX10_join_120 : decode cX10_join 120 = .ok (.getfield 103, 3) := by decide +kernel
theorem dX10_join_123 : decode cX10_join 123 = .ok (.astore 6, 2) := by decide +kernel
theorem dX10_join_125 : decode cX10_join 125 = .ok (.aload 5, 2) := by decide +kernel
theorem dX10_join_127 : decode cX10_join 127 = .ok (.getfield 91, 3) := by decide +kernel
theorem dX10_join_130 : decode cX10_join 130 = .ok (.getfield 103, 3) := by decide +kernel
theorem dX10_join_133 : decode cX10_join 133 = .ok (.astore 7, 2) := by decide +kernel
theorem dX10_join_135 : decode cX10_join 135 = .ok (.aload 6, 2) := by decide +kernel
theorem dX10_join_137 : decode cX10_join 137 = .ok (.ifnull 8, 3) := by decide +kernel
theorem dX10_join_140 : decode cX10_join 140 = .ok (.aload 7, 2) := by decide +kernel
theorem dX10_join_142 : decode cX10_join 142 = .ok (.ifnonnull 9, 3) := by decide +kernel
theorem dX10_join_145 : decode cX10_join 145 = .ok (.aload_n 0, 1) := by decide +kernel
theorem dX10_join_146 : decode cX10_join 146 = .ok (.iconst 5, 1) := by decide +kernel
theorem dX10_join_147 : decode cX10_join 147 = .ok (.invokevirtual 78, 3) := by decide +kernel
theorem dX10_join_150 : decode cX10_join 150 = .ok (.ireturn, 1) := by decide +kernel
theorem dX10_join_151 : decode cX10_join 151 = .ok (.aload_n 0, 1) := by decide +kernel
theorem dX10_join_152 : decode cX10_join 152 = .ok (.getfield 43, 3) := by decide +kernel
theorem dX10_join_155 : decode cX10_join 155 = .ok (.aload 6, 2) := by decide +kernel
theorem dX10_join_157 : decode cX10_join 157 = .ok (.aload 7, 2) := by decide +kernel
theorem dX10_join_159 : decode cX10_join 159 = .ok (.invokevirtual 202, 3) := by decide +kernel
theorem dX10_join_162 : decode cX10_join 162 = .ok (.aload_n 0, 1) := by decide +kernel
theorem dX10_join_163 : decode cX10_join 163 = .ok (.getfield 43, 3) := by decide +kernel
theorem dX10_join_166 : decode cX10_join 166 = .ok (.iload_n 3, 1) := by decide +kernel
theorem dX10_join_167 : decode cX10_join 167 = .ok (.invokevirtual 206, 3) := by decide +kernel
theorem dX10_join_170 : decode cX10_join 170 = .ok (.ifCond .eq 9, 3) := by decide +kernel
theorem dX10_join_173 : decode cX10_join 173 = .ok (.aload_n 0, 1) := by decide +kernel
theorem dX10_join_174 : decode cX10_join 174 = .ok (.iconst 4, 1) := by decide +kernel
theorem dX10_join_175 : decode cX10_join 175 = .ok (.invokevirtual 78, 3) := by decide +kernel
theorem dX10_join_178 : decode cX10_join 178 = .ok (.ireturn, 1) := by decide +kernel
theorem dX10_join_179 : decode cX10_join 179 = .ok (.aload_n 0, 1) := by decide +kernel
theorem dX10_join_180 : decode cX10_join 180 = .ok (.getfield 33, 3) := by decide +kernel
theorem dX10_join_183 : decode cX10_join 183 = .ok (.aload 6, 2) := by decide +kernel
theorem dX10_join_185 : decode cX10_join 185 = .ok (.invokevirtual 184, 3) := by decide +kernel
theorem dX10_join_188 : decode cX10_join 188 = .ok (.aload_n 0, 1) := by decide +kernel
theorem dX10_join_189 : decode cX10_join 189 = .ok (.getfield 33, 3) := by decide +kernel
theorem dX10_join_192 : decode cX10_join 192 = .ok (.aload 7, 2) := by decide +kernel
theorem dX10_join_194 : decode cX10_join 194 = .ok (.invokevirtual 209, 3) := by decide +kernel
theorem dX10_join_197 : decode cX10_join 197 = .ok (.aload_n 0, 1) := by decide +kernel
theorem dX10_join_198 : decode cX10_join 198 = .ok (.getfield 19, 3) := by decide +kernel
theorem dX10_join_201 : decode cX10_join 201 = .ok (.getfield 158, 3) := by decide +kernel
theorem dX10_join_204 : decode cX10_join 204 = .ok (.aload_n 0, 1) := by decide +kernel
theorem dX10_join_205 : decode cX10_join 205 = .ok (.getfield 33, 3) := by decide +kernel
theorem dX10_join_208 : decode cX10_join 208 = .ok (.invokevirtual 187, 3) := by decide +kernel
theorem dX10_join_211 : decode cX10_join 211 = .ok (.aload_n 0, 1) := by decide +kernel
theorem dX10_join_212 : decode cX10_join 212 = .ok (.getfield 19, 3) := by decide +kernel
theorem dX10_join_215 : decode cX10_join 215 = .ok (.aload_n 0, 1) := by decide +kernel
theorem dX10_join_216 : decode cX10_join 216 = .ok (.getfield 12, 3) := by decide +kernel
theorem dX10_join_219 : decode cX10_join 219 = .ok (.aload 4, 2) := by decide +kernel
theorem dX10_join_221 : decode cX10_join 221 = .ok (.aload 5, 2) := by decide +kernel
theorem dX10_join_223 : decode cX10_join 223 = .ok (.invokevirtual 212, 3) := by decide +kernel
theorem dX10_join_226 : decode cX10_join 226 = .ok (.ifCond .ne 10, 3) := by decide +kernel
theorem dX10_join_229 : decode cX10_join 229 = .ok (.aload_n 0, 1) := by decide +kernel
theorem dX10_join_230 : decode cX10_join 230 = .ok (.bipush 7, 2) := by decide +kernel
theorem dX10_join_232 : decode cX10_join 232 = .ok (.invokevirtual 78, 3) := by decide +kernel
theorem dX10_join_235 : decode cX10_join 235 = .ok (.ireturn, 1) := by decide +kernel
theorem dX10_join_236 : decode cX10_join 236 = .ok (.aload_n 0, 1) := by decide +kernel
theorem dX10_join_237 : decode cX10_join 237 = .ok (.getfield 12, 3) := by decide +kernel
theorem dX10_join_240 : decode cX10_join 240 = .ok (.invokevirtual 82, 3) := by decide +kernel
theorem dX10_join_243 : decode cX10_join 243 = .ok (.ifCond .ne 10, 3) := by decide +kernel
theorem dX10_join_246 : decode cX10_join 246 = .ok (.aload 4, 2) := by decide +kernel
theorem dX10_join_248 : decode cX10_join 248 = .ok (.aload 5, 2) := by decide +kernel
theorem dX10_join_250 : decode cX10_join 250 = .ok (.if_acmp .ne 10, 3) := by decide +kernel
theorem dX10_join_253 : decode cX10_join 253 = .ok (.aload_n 0, 1) := by decide +kernel
theorem dX10_join_254 : decode cX10_join 254 = .ok (.bipush 8, 2) := by decide +kernel
theorem dX10_join_256 : decode cX10_join 256 = .ok (.invokevirtual 78, 3) := by decide +kernel
theorem dX10_join_259 : decode cX10_join 259 = .ok (.ireturn, 1) := by decide +kernel
theorem dX10_join_260 : decode cX10_join 260 = .ok (.aload_n 0, 1) := by decide +kernel
theorem dX10_join_261 : decode cX10_join 261 = .ok (.aload 4, 2) := by decide +kernel
theorem dX10_join_263 : decode cX10_join 263 = .ok (.aload 5, 2) := by decide +kernel
theorem dX10_join_265 : decode cX10_join 265 = .ok (.iload_n 1, 1) := by decide +kernel
theorem dX10_join_266 : decode cX10_join 266 = .ok (.iload_n 2, 1) := by decide +kernel
theorem dX10_join_267 : decode cX10_join 267 = .ok (.invokevirtual 216, 3) := by decide +kernel
theorem dX10_join_270 : decode cX10_join 270 = .ok (.ireturn, 1) := by decide +kernel
theorem dX10_drop_0 : decode cX10_drop 0 = .ok (.aload_n 0, 1) := by decide +kernel
theorem dX10_drop_1 : decode cX10_drop 1 = .ok (.getfield 12, 3) := by decide +kernel
theorem dX10_drop_4 : decode cX10_drop 4 = .ok (.iload_n 1, 1) := by decide +kernel
theorem dX10_drop_5 : decode cX10_drop 5 = .ok (.invokevirtual 116, 3) := by decide +kernel
theorem dX10_drop_8 : decode cX10_drop 8 = .ok (.astore_n 2, 1) := by decide +kernel
theorem dX10_drop_9 : decode cX10_drop 9 = .ok (.aload_n 2, 1) := by decide +kernel
theorem dX10_drop_10 : decode cX10_drop 10 = .ok (.ifnonnull 9, 3) := by decide +kernel
theorem dX10_drop_13 : decode cX10_drop 13 = .ok (.aload_n 0, 1) := by decide +kernel
theorem dX10_drop_14 : decode cX10_drop 14 = .ok (.iconst 1, 1) := by decide +kernel
theorem dX10_drop_15 : decode cX10_drop 15 = .ok (.invokevirtual 137, 3) := by decide +kernel
theorem dX10_drop_18 : decode cX10_drop 18 = .ok (.ireturn, 1) := by decide +kernel
theorem dX10_drop_19 : decode cX10_drop 19 = .ok (.aload_n 2, 1) := by decide +kernel
theorem dX10_drop_20 : decode cX10_drop 20 = .ok (.getfield 91, 3) := by decide +kernel
theorem dX10_drop_23 : decode cX10_drop 23 = .ok (.getfield 120, 3) := by decide +kernel
theorem dX10_drop_26 : decode cX10_drop 26 = .ok (.iconst 1, 1) := by decide +kernel
theorem dX10_drop_27 : decode cX10_drop 27 = .ok (.if_icmp .eq 9, 3) := by decide +kernel
theorem dX10_drop_30 : decode cX10_drop 30 = .ok (.aload_n 0, 1) := by decide +kernel
theorem dX10_drop_31 : decode cX10_drop 31 = .ok (.iconst 2, 1) := by decide +kernel
theorem dX10_drop_32 : decode cX10_drop 32 = .ok (.invokevirtual 137, 3) := by decide +kernel
theorem dX10_drop_35 : decode cX10_drop 35 = .ok (.ireturn, 1) := by decide +kernel
theorem dX10_drop_36 : decode cX10_drop 36 = .ok (.aload_n 2, 1) := by decide +kernel
theorem dX10_drop_37 : decode cX10_drop 37 = .ok (.getfield 91, 3) := by decide +kernel
theorem dX10_drop_40 : decode cX10_drop 40 = .ok (.getfield 103, 3) := by decide +kernel
theorem dX10_drop_43 : decode cX10_drop 43 = .ok (.ifnonnull 9, 3) := by decide +kernel
theorem dX10_drop_46 : decode cX10_drop 46 = .ok (.aload_n 0, 1) := by decide +kernel
theorem dX10_drop_47 : decode cX10_drop 47 = .ok (.iconst 5, 1) := by decide +kernel
theorem dX10_drop_48 : decode cX10_drop 48 = .ok (.invokevirtual 137, 3) := by decide +kernel
theorem dX10_drop_51 : decode cX10_drop 51 = .ok (.ireturn, 1) := by decide +kernel
theorem dX10_drop_52 : decode cX10_drop 52 = .ok (.aload_n 2, 1) := by decide +kernel
theorem dX10_drop_53 : decode cX10_drop 53 = .ok (.aload_n 0, 1) := by decide +kernel
theorem dX10_drop_54 : decode cX10_drop 54 = .ok (.getfield 61, 3) := by decide +kernel
theorem dX10_drop_57 : decode cX10_drop 57 = .ok (.iconst 1, 1) := by decide +kernel
theorem dX10_drop_58 : decode cX10_drop 58 = .ok (.iadd, 1) := by decide +kernel
theorem dX10_drop_59 : decode cX10_drop 59 = .ok (.invokevirtual 220, 3) := by decide +kernel
theorem dX10_drop_62 : decode cX10_drop 62 = .ok (.aload_n 0, 1) := by decide +kernel
theorem dX10_drop_63 : decode cX10_drop 63 = .ok (.bipush 7, 2) := by decide +kernel
theorem dX10_drop_65 : decode cX10_drop 65 = .ok (.iload_n 1, 1) := by decide +kernel
theorem dX10_drop_66 : decode cX10_drop 66 = .ok (.iconst 1, 1) := by decide +kernel
theorem dX10_drop_67 : decode cX10_drop 67 = .ok (.aconst_null, 1) := by decide +kernel
theorem dX10_drop_68 : decode cX10_drop 68 = .ok (.invokevirtual 154, 3) := by decide +kernel
theorem dX10_drop_71 : decode cX10_drop 71 = .ok (.ireturn, 1) := by decide +kernel
theorem dX10_few_0 : decode cX10_few 0 = .ok (.iload_n 1, 1) := by decide +kernel
theorem dX10_few_1 : decode cX10_few 1 = .ok (.ifCond .lt 14, 3) := by decide +kernel
theorem dX10_few_4 : decode cX10_few 4 = .ok (.iload_n 2, 1) := by decide +kernel
theorem dX10_few_5 : decode cX10_few 5 = .ok (.iconst 0, 1) := by decide +kernel
theorem dX10_few_6 : decode cX10_few 6 = .ok (.sipush 200, 3) := by decide +kernel
theorem dX10_few_9 : decode cX10_few 9 = .ok (.invokestatic 74, 3) := by decide +kernel
theorem dX10_few_12 : decode cX10_few 12 = .ok (.ifCond .ne 9, 3) := by decide +kernel
theorem dX10_few_15 : decode cX10_few 15 = .ok (.aload_n 0, 1) := by decide +kernel
theorem dX10_few_16 : decode cX10_few 16 = .ok (.iconst 4, 1) := by decide +kernel
theorem dX10_few_17 : decode cX10_few 17 = .ok (.invokevirtual 78, 3) := by decide +kernel
theorem dX10_few_20 : decode cX10_few 20 = .ok (.ireturn, 1) := by decide +kernel
theorem dX10_few_21 : decode cX10_few 21 = .ok (.iconst 0, 1) := by decide +kernel
theorem dX10_few_22 : decode cX10_few 22 = .ok (.istore_n 3, 1) := by decide +kernel
theorem dX10_few_23 : decode cX10_few 23 = .ok (.iload_n 3, 1) := by decide +kernel
theorem dX10_few_24 : decode cX10_few 24 = .ok (.aload_n 0, 1) := by decide +kernel
theorem dX10_few_25 : decode cX10_few 25 = .ok (.getfield 12, 3) := by decide +kernel
theorem dX10_few_28 : decode cX10_few 28 = .ok (.getfield 224, 3) := by decide +kernel
theorem dX10_few_31 : decode cX10_few 31 = .ok (.if_icmp .ge 38, 3) := by decide +kernel
theorem dX10_few_34 : decode cX10_few 34 = .ok (.aload_n 0, 1) := by decide +kernel
theorem dX10_few_35 : decode cX10_few 35 = .ok (.getfield 50, 3) := by decide +kernel
theorem dX10_few_38 : decode cX10_few 38 = .ok (.iload_n 3, 1) := by decide +kernel
theorem dX10_few_39 : decode cX10_few 39 = .ok (.aload_n 0, 1) := by decide +kernel
theorem dX10_few_40 : decode cX10_few 40 = .ok (.iload_n 3, 1) := by decide +kernel
theorem dX10_few_41 : decode cX10_few 41 = .ok (.iload_n 1, 1) := by decide +kernel
theorem dX10_few_42 : decode cX10_few 42 = .ok (.invokevirtual 227, 3) := by decide +kernel
theorem dX10_few_45 : decode cX10_few 45 = .ok (.ifCond .eq 16, 3) := by decide +kernel
theorem dX10_few_48 : decode cX10_few 48 = .ok (.aload_n 0, 1) := by decide +kernel
theorem dX10_few_49 : decode cX10_few 49 = .ok (.iload_n 3, 1) := by decide +kernel
theorem dX10_few_50 : decode cX10_few 50 = .ok (.invokevirtual 230, 3) := by decide +kernel
theorem dX10_few_53 : decode cX10_few 53 = .ok (.iload_n 2, 1) := by decide +kernel
theorem dX10_few_54 : decode cX10_few 54 = .ok (.if_icmp .lt 7, 3) := by decide +kernel
theorem dX10_few_57 : decode cX10_few 57 = .ok (.iconst 1, 1) := by decide +kernel
theorem dX10_few_58 : decode cX10_few 58 = .ok (.goto 4, 3) := by decide +kernel
theorem dX10_few_61 : decode cX10_few 61 = .ok (.iconst 0, 1) := by decide +kernel
theorem dX10_few_62 : decode cX10_few 62 = .ok (.bastore, 1) := by decide +kernel
theorem dX10_few_63 : decode cX10_few 63 = .ok (.iinc 3 1, 3) := by decide +kernel
theorem dX10_few_66 : decode cX10_few 66 = .ok (.goto (-43), 3) := by decide +kernel
theorem dX10_few_69 : decode cX10_few 69 = .ok (.iconst 0, 1) := by decide +kernel
theorem dX10_few_70 : decode cX10_few 70 = .ok (.istore_n 3, 1) := by decide +kernel
theorem dX10_few_71 : decode cX10_few 71 = .ok (.iconst 0, 1) := by decide +kernel
theorem dX10_few_72 : decode cX10_few 72 = .ok (.istore 4, 2) := by decide +kernel
theorem dX10_few_74 : decode cX10_few 74 = .ok (.iload 4, 2) := by decide +kernel
theorem dX10_few_76 : decode cX10_few 76 = .ok (.aload_n 0, 1) := by decide +kernel
theorem dX10_few_77 : decode cX10_few 77 = .ok (.getfield 12, 3) := by decide +kernel
theorem dX10_few_80 : decode cX10_few 80 = .ok (.getfield 224, 3) := by decide +kernel
theorem dX10_few_83 : decode cX10_few 83 = .ok (.if_icmp .ge 49, 3) := by decide +kernel
theorem dX10_few_86 : decode cX10_few 86 = .ok (.aload_n 0, 1) := by decide +kernel
theorem dX10_few_87 : decode cX10_few 87 = .ok (.getfield 12, 3) := by decide +kernel
theorem dX10_few_90 : decode cX10_few 90 = .ok (.iload 4, 2) := by decide +kernel
theorem dX10_few_92 : decode cX10_few 92 = .ok (.invokevirtual 116, 3) := by decide +kernel
theorem dX10_few_95 : decode cX10_few 95 = .ok (.astore 5, 2) := by decide +kernel
theorem dX10_few_97 : decode cX10_few 97 = .ok (.aload 5, 2) := by decide +kernel
theorem dX10_few_99 : decode cX10_few 99 = .ok (.ifnull 27, 3) := by decide +kernel
theorem dX10_few_102 : decode cX10_few 102 = .ok (.aload_n 0, 1) := by decide +kernel
theorem dX10_few_103 : decode cX10_few 103 = .ok (.getfield 50, 3) := by decide +kernel
theorem dX10_few_106 : decode cX10_few 106 = .ok (.iload 4, 2) := by decide +kernel
theorem dX10_few_108 : decode cX10_few 108 = .ok (.baload, 1) := by decide +kernel
theorem dX10_few_109 : decode cX10_few 109 = .ok (.ifCond .eq 17, 3) := by decide +kernel
theorem dX10_few_112 : decode cX10_few 112 = .ok (.aload 5, 2) := by decide +kernel
theorem dX10_few_114 : decode cX10_few 114 = .ok (.aload_n 0, 1) := by decide +kernel
theorem dX10_few_115 : decode cX10_few 115 = .ok (.getfield 61, 3) := by decide +kernel
theorem dX10_few_118 : decode cX10_few 118 = .ok (.iconst 1, 1) := by decide +kernel
theorem dX10_few_119 : decode cX10_few 119 = .ok (.iadd, 1) := by decide +kernel
theorem dX10_few_120 : decode cX10_few 120 = .ok (.invokevirtual 220, 3) := by decide +kernel
theorem dX10_few_123 : decode cX10_few 123 = .ok (.iinc 3 1, 3) := by decide +kernel
theorem dX10_few_126 : decode cX10_few 126 = .ok (.iinc 4 1, 3) := by decide +kernel
theorem dX10_few_129 : decode cX10_few 129 = .ok (.goto (-55), 3) := by decide +kernel
theorem dX10_few_132 : decode cX10_few 132 = .ok (.iload_n 3, 1) := by decide +kernel
theorem dX10_few_133 : decode cX10_few 133 = .ok (.ifCond .ne 10, 3) := by decide +kernel
theorem dX10_few_136 : decode cX10_few 136 = .ok (.aload_n 0, 1) := by decide +kernel
theorem dX10_few_137 : decode cX10_few 137 = .ok (.bipush 8, 2) := by decide +kernel
theorem dX10_few_139 : decode cX10_few 139 = .ok (.invokevirtual 78, 3) := by decide +kernel
theorem dX10_few_142 : decode cX10_few 142 = .ok (.ireturn, 1) := by decide +kernel
theorem dX10_few_143 : decode cX10_few 143 = .ok (.aload_n 0, 1) := by decide +kernel
theorem dX10_few_144 : decode cX10_few 144 = .ok (.bipush 8, 2) := by decide +kernel
theorem dX10_few_146 : decode cX10_few 146 = .ok (.iconst (-1), 1) := by decide +kernel
theorem dX10_few_147 : decode cX10_few 147 = .ok (.iload_n 3, 1) := by decide +kernel
theorem dX10_few_148 : decode cX10_few 148 = .ok (.aconst_null, 1) := by decide +kernel
theorem dX10_few_149 : decode cX10_few 149 = .ok (.invokevirtual 154, 3) := by decide +kernel
theorem dX10_few_152 : decode cX10_few 152 = .ok (.pop, 1) := by decide +kernel
theorem dX10_few_153 : decode cX10_few 153 = .ok (.iload_n 3, 1) := by decide +kernel
theorem dX10_few_154 : decode cX10_few 154 = .ok (.ireturn, 1) := by decide +kernel
theorem dX10_choose_0 : decode cX10_choose 0 = .ok (.aload_n 0, 1) := by decide +kernel
theorem dX10_choose_1 : decode cX10_choose 1 = .ok (.getfield 26, 3) := by decide +kernel
theorem dX10_choose_4 : decode cX10_choose 4 = .ok (.aload_n 0, 1) := by decide +kernel
theorem dX10_choose_5 : decode cX10_choose 5 = .ok (.getfield 12, 3) := by decide +kernel
theorem dX10_choose_8 : decode cX10_choose 8 = .ok (.invokevirtual 233, 3) := by decide +kernel
theorem dX10_choose_11 : decode cX10_choose 11 = .ok (.aload_n 0, 1) := by decide +kernel
theorem dX10_choose_12 : decode cX10_choose 12 = .ok (.getfield 26, 3) := by decide +kernel
theorem dX10_choose_15 : decode cX10_choose 15 = .ok (.aload_n 0, 1) := by decide +kernel
theorem dX10_choose_16 : decode cX10_choose 16 = .ok (.getfield 61, 3) := by decide +kernel
theorem dX10_choose_19 : decode cX10_choose 19 = .ok (.iconst 1, 1) := by decide +kernel
theorem dX10_choose_20 : decode cX10_choose 20 = .ok (.iadd, 1) := by decide +kernel
theorem dX10_choose_21 : decode cX10_choose 21 = .ok (.invokevirtual 237, 3) := by decide +kernel
theorem dX10_choose_24 : decode cX10_choose 24 = .ok (.istore_n 1, 1) := by decide +kernel
theorem dX10_choose_25 : decode cX10_choose 25 = .ok (.iload_n 1, 1) := by decide +kernel
theorem dX10_choose_26 : decode cX10_choose 26 = .ok (.ifCond .ne 10, 3) := by decide +kernel
theorem dX10_choose_29 : decode cX10_choose 29 = .ok (.aload_n 0, 1) := by decide +kernel
theorem dX10_choose_30 : decode cX10_choose 30 = .ok (.bipush 8, 2) := by decide +kernel
theorem dX10_choose_32 : decode cX10_choose 32 = .ok (.invokevirtual 78, 3) := by decide +kernel
theorem dX10_choose_35 : decode cX10_choose 35 = .ok (.ireturn, 1) := by decide +kernel
theorem dX10_choose_36 : decode cX10_choose 36 = .ok (.aload_n 0, 1) := by decide +kernel
theorem dX10_choose_37 : decode cX10_choose 37 = .ok (.bipush 9, 2) := by decide +kernel
theorem dX10_choose_39 : decode cX10_choose 39 = .ok (.iconst (-1), 1) := by decide +kernel
theorem dX10_choose_40 : decode cX10_choose 40 = .ok (.iload_n 1, 1) := by decide +kernel
theorem dX10_choose_41 : decode cX10_choose 41 = .ok (.aconst_null, 1) := by decide +kernel
theorem dX10_choose_42 : decode cX10_choose 42 = .ok (.invokevirtual 154, 3) := by decide +kernel
theorem dX10_choose_45 : decode cX10_choose 45 = .ok (.pop, 1) := by decide +kernel
theorem dX10_choose_46 : decode cX10_choose 46 = .ok (.iload_n 1, 1) := by decide +kernel
theorem dX10_choose_47 : decode cX10_choose 47 = .ok (.ireturn, 1) := by decide +kernel
theorem dX10_run_0 : decode cX10_run 0 = .ok (.iload_n 1, 1) := by decide +kernel
theorem dX10_run_1 : decode cX10_run 1 = .ok (.ifCond .ge 9, 3) := by decide +kernel
theorem dX10_run_4 : decode cX10_run 4 = .ok (.aload_n 0, 1) := by decide +kernel
theorem dX10_run_5 : decode cX10_run 5 = .ok (.iconst 4, 1) := by decide +kernel
theorem dX10_run_6 : decode cX10_run 6 = .ok (.invokevirtual 78, 3) := by decide +kernel
theorem dX10_run_9 : decode cX10_run 9 = .ok (.ireturn, 1) := by decide +kernel
theorem dX10_run_10 : decode cX10_run 10 = .ok (.iconst 0, 1) := by decide +kernel
theorem dX10_run_11 : decode cX10_run 11 = .ok (.istore_n 2, 1) := by decide +kernel
theorem dX10_run_12 : decode cX10_run 12 = .ok (.iconst 0, 1) := by decide +kernel
theorem dX10_run_13 : decode cX10_run 13 = .ok (.istore_n 3, 1) := by decide +kernel
theorem dX10_run_14 : decode cX10_run 14 = .ok (.iload_n 3, 1) := by decide +kernel
theorem dX10_run_15 : decode cX10_run 15 = .ok (.sipush 8001, 3) := by decide +kernel
theorem dX10_run_18 : decode cX10_run 18 = .ok (.if_icmp .ge 88, 3) := by decide +kernel
theorem dX10_run_21 : decode cX10_run 21 = .ok (.iload_n 2, 1) := by decide +kernel
theorem dX10_run_22 : decode cX10_run 22 = .ok (.istore 4, 2) := by decide +kernel
theorem dX10_run_24 : decode cX10_run 24 = .ok (.iconst 0, 1) := by decide +kernel
theorem dX10_run_25 : decode cX10_run 25 = .ok (.istore 5, 2) := by decide +kernel
theorem dX10_run_27 : decode cX10_run 27 = .ok (.iload 5, 2) := by decide +kernel
theorem dX10_run_29 : decode cX10_run 29 = .ok (.aload_n 0, 1) := by decide +kernel
theorem dX10_run_30 : decode cX10_run 30 = .ok (.getfield 12, 3) := by decide +kernel
theorem dX10_run_33 : decode cX10_run 33 = .ok (.getfield 224, 3) := by decide +kernel
theorem dX10_run_36 : decode cX10_run 36 = .ok (.if_icmp .ge 55, 3) := by decide +kernel
theorem dX10_run_39 : decode cX10_run 39 = .ok (.aload_n 0, 1) := by decide +kernel
theorem dX10_run_40 : decode cX10_run 40 = .ok (.getfield 12, 3) := by decide +kernel
theorem dX10_run_43 : decode cX10_run 43 = .ok (.iload 5, 2) := by decide +kernel
theorem dX10_run_45 : decode cX10_run 45 = .ok (.invokevirtual 116, 3) := by decide +kernel
theorem dX10_run_48 : decode cX10_run 48 = .ok (.astore 6, 2) := by decide +kernel
theorem dX10_run_50 : decode cX10_run 50 = .ok (.aload 6, 2) := by decide +kernel
theorem dX10_run_52 : decode cX10_run 52 = .ok (.ifnull 33, 3) := by decide +kernel
theorem dX10_run_55 : decode cX10_run 55 = .ok (.aload 6, 2) := by decide +kernel
theorem dX10_run_57 : decode cX10_run 57 = .ok (.invokevirtual 147, 3) := by decide +kernel
theorem dX10_run_60 : decode cX10_run 60 = .ok (.ifCond .eq 25, 3) := by decide +kernel
theorem dX10_run_63 : decode cX10_run 63 = .ok (.aload_n 0, 1) := by decide +kernel
theorem dX10_run_64 : decode cX10_run 64 = .ok (.getfield 12, 3) := by decide +kernel
theorem dX10_run_67 : decode cX10_run 67 = .ok (.iload 5, 2) := by decide +kernel
theorem dX10_run_69 : decode cX10_run 69 = .ok (.invokevirtual 240, 3) := by decide +kernel
theorem dX10_run_72 : decode cX10_run 72 = .ok (.ifnull 13, 3) := by decide +kernel
theorem dX10_run_75 : decode cX10_run 75 = .ok (.iload_n 2, 1) := by decide +kernel
theorem dX10_run_76 : decode cX10_run 76 = .ok (.aload_n 0, 1) := by decide +kernel
theorem dX10_run_77 : decode cX10_run 77 = .ok (.aload 6, 2) := by decide +kernel
theorem dX10_run_79 : decode cX10_run 79 = .ok (.iload_n 1, 1) := by decide +kernel
theorem dX10_run_80 : decode cX10_run 80 = .ok (.invokevirtual 150, 3) := by decide +kernel
theorem dX10_run_83 : decode cX10_run 83 = .ok (.iadd, 1) := by decide +kernel
theorem dX10_run_84 : decode cX10_run 84 = .ok (.istore_n 2, 1) := by decide +kernel
theorem dX10_run_85 : decode cX10_run 85 = .ok (.iinc 5 1, 3) := by decide +kernel
theorem dX10_run_88 : decode cX10_run 88 = .ok (.goto (-61), 3) := by decide +kernel
theorem dX10_run_91 : decode cX10_run 91 = .ok (.iload_n 2, 1) := by decide +kernel
theorem dX10_run_92 : decode cX10_run 92 = .ok (.iload 4, 2) := by decide +kernel
theorem dX10_run_94 : decode cX10_run 94 = .ok (.if_icmp .ne 6, 3) := by decide +kernel
theorem dX10_run_97 : decode cX10_run 97 = .ok (.goto 9, 3) := by decide +kernel
theorem dX10_run_100 : decode cX10_run 100 = .ok (.iinc 3 1, 3) := by decide +kernel
theorem dX10_run_103 : decode cX10_run 103 = .ok (.goto (-89), 3) := by decide +kernel
theorem dX10_run_106 : decode cX10_run 106 = .ok (.iload_n 2, 1) := by decide +kernel
theorem dX10_run_107 : decode cX10_run 107 = .ok (.ifCond .ne 10, 3) := by decide +kernel
theorem dX10_run_110 : decode cX10_run 110 = .ok (.aload_n 0, 1) := by decide +kernel
theorem dX10_run_111 : decode cX10_run 111 = .ok (.bipush 8, 2) := by decide +kernel
theorem dX10_run_113 : decode cX10_run 113 = .ok (.invokevirtual 78, 3) := by decide +kernel
theorem dX10_run_116 : decode cX10_run 116 = .ok (.ireturn, 1) := by decide +kernel
theorem dX10_run_117 : decode cX10_run 117 = .ok (.aload_n 0, 1) := by decide +kernel
theorem dX10_run_118 : decode cX10_run 118 = .ok (.bipush 10, 2) := by decide +kernel
theorem dX10_run_120 : decode cX10_run 120 = .ok (.iconst (-1), 1) := by decide +kernel
theorem dX10_run_121 : decode cX10_run 121 = .ok (.iload_n 2, 1) := by decide +kernel
theorem dX10_run_122 : decode cX10_run 122 = .ok (.aconst_null, 1) := by decide +kernel
theorem dX10_run_123 : decode cX10_run 123 = .ok (.invokevirtual 154, 3) := by decide +kernel
theorem dX10_run_126 : decode cX10_run 126 = .ok (.pop, 1) := by decide +kernel
theorem dX10_run_127 : decode cX10_run 127 = .ok (.iload_n 2, 1) := by decide +kernel
theorem dX10_run_128 : decode cX10_run 128 = .ok (.ireturn, 1) := by decide +kernel
theorem dX10_undo_0 : decode cX10_undo 0 = .ok (.aload_n 0, 1) := by decide +kernel
theorem dX10_undo_1 : decode cX10_undo 1 = .ok (.getfield 61, 3) := by decide +kernel
theorem dX10_undo_4 : decode cX10_undo 4 = .ok (.aload_n 0, 1) := by decide +kernel
theorem dX10_undo_5 : decode cX10_undo 5 = .ok (.getfield 65, 3) := by decide +kernel
theorem dX10_undo_8 : decode cX10_undo 8 = .ok (.if_icmp .le 17, 3) := by decide +kernel
theorem dX10_undo_11 : decode cX10_undo 11 = .ok (.aload_n 0, 1) := by decide +kernel
theorem dX10_undo_12 : decode cX10_undo 12 = .ok (.getfield 61, 3) := by decide +kernel
theorem dX10_undo_15 : decode cX10_undo 15 = .ok (.aload_n 0, 1) := by decide +kernel
theorem dX10_undo_16 : decode cX10_undo 16 = .ok (.getfield 57, 3) := by decide +kernel
theorem dX10_undo_19 : decode cX10_undo 19 = .ok (.invokevirtual 244, 3) := by decide +kernel
theorem dX10_undo_22 : decode cX10_undo 22 = .ok (.if_icmp .le 10, 3) := by decide +kernel
theorem dX10_undo_25 : decode cX10_undo 25 = .ok (.aload_n 0, 1) := by decide +kernel
theorem dX10_undo_26 : decode cX10_undo 26 = .ok (.bipush 8, 2) := by decide +kernel
theorem dX10_undo_28 : decode cX10_undo 28 = .ok (.invokevirtual 78, 3) := by decide +kernel
theorem dX10_undo_31 : decode cX10_undo 31 = .ok (.ireturn, 1) := by decide +kernel
theorem dX10_undo_32 : decode cX10_undo 32 = .ok (.aload_n 0, 1) := by decide +kernel
theorem dX10_undo_33 : decode cX10_undo 33 = .ok (.getfield 57, 3) := by decide +kernel
theorem dX10_undo_36 : decode cX10_undo 36 = .ok (.aload_n 0, 1) := by decide +kernel
theorem dX10_undo_37 : decode cX10_undo 37 = .ok (.getfield 61, 3) := by decide +kernel
theorem dX10_undo_40 : decode cX10_undo 40 = .ok (.iconst 1, 1) := by decide +kernel
theorem dX10_undo_41 : decode cX10_undo 41 = .ok (.isub, 1) := by decide +kernel
theorem dX10_undo_42 : decode cX10_undo 42 = .ok (.invokevirtual 247, 3) := by decide +kernel
theorem dX10_undo_45 : decode cX10_undo 45 = .ok (.checkcast 251, 3) := by decide +kernel
theorem dX10_undo_48 : decode cX10_undo 48 = .ok (.astore_n 1, 1) := by decide +kernel
theorem dX10_undo_49 : decode cX10_undo 49 = .ok (.aload_n 1, 1) := by decide +kernel
theorem dX10_undo_50 : decode cX10_undo 50 = .ok (.invokevirtual 253, 3) := by decide +kernel
theorem dX10_undo_53 : decode cX10_undo 53 = .ok (.aload_n 1, 1) := by decide +kernel
theorem dX10_undo_54 : decode cX10_undo 54 = .ok (.getfield 256, 3) := by decide +kernel
theorem dX10_undo_57 : decode cX10_undo 57 = .ok (.ifnull 10, 3) := by decide +kernel
theorem dX10_undo_60 : decode cX10_undo 60 = .ok (.aload_n 0, 1) := by decide +kernel
theorem dX10_undo_61 : decode cX10_undo 61 = .ok (.getfield 12, 3) := by decide +kernel
theorem dX10_undo_64 : decode cX10_undo 64 = .ok (.invokevirtual 260, 3) := by decide +kernel
theorem dX10_undo_67 : decode cX10_undo 67 = .ok (.aload_n 0, 1) := by decide +kernel
theorem dX10_undo_68 : decode cX10_undo 68 = .ok (.dup, 1) := by decide +kernel
theorem dX10_undo_69 : decode cX10_undo 69 = .ok (.getfield 61, 3) := by decide +kernel
theorem dX10_undo_72 : decode cX10_undo 72 = .ok (.iconst 1, 1) := by decide +kernel
theorem dX10_undo_73 : decode cX10_undo 73 = .ok (.isub, 1) := by decide +kernel
theorem dX10_undo_74 : decode cX10_undo 74 = .ok (.putfield 61, 3) := by decide +kernel
theorem dX10_undo_77 : decode cX10_undo 77 = .ok (.aload_n 0, 1) := by decide +kernel
theorem dX10_undo_78 : decode cX10_undo 78 = .ok (.iconst 0, 1) := by decide +kernel
theorem dX10_undo_79 : decode cX10_undo 79 = .ok (.putfield 71, 3) := by decide +kernel
theorem dX10_undo_82 : decode cX10_undo 82 = .ok (.aload_n 0, 1) := by decide +kernel
theorem dX10_undo_83 : decode cX10_undo 83 = .ok (.getfield 61, 3) := by decide +kernel
theorem dX10_undo_86 : decode cX10_undo 86 = .ok (.iconst 1, 1) := by decide +kernel
theorem dX10_undo_87 : decode cX10_undo 87 = .ok (.iadd, 1) := by decide +kernel
theorem dX10_undo_88 : decode cX10_undo 88 = .ok (.ireturn, 1) := by decide +kernel
theorem dX10_redo_0 : decode cX10_redo 0 = .ok (.aload_n 0, 1) := by decide +kernel
theorem dX10_redo_1 : decode cX10_redo 1 = .ok (.getfield 61, 3) := by decide +kernel
theorem dX10_redo_4 : decode cX10_redo 4 = .ok (.aload_n 0, 1) := by decide +kernel
theorem dX10_redo_5 : decode cX10_redo 5 = .ok (.getfield 57, 3) := by decide +kernel
theorem dX10_redo_8 : decode cX10_redo 8 = .ok (.invokevirtual 244, 3) := by decide +kernel
theorem dX10_redo_11 : decode cX10_redo 11 = .ok (.if_icmp .lt 10, 3) := by decide +kernel
theorem dX10_redo_14 : decode cX10_redo 14 = .ok (.aload_n 0, 1) := by decide +kernel
theorem dX10_redo_15 : decode cX10_redo 15 = .ok (.bipush 8, 2) := by decide +kernel
theorem dX10_redo_17 : decode cX10_redo 17 = .ok (.invokevirtual 78, 3) := by decide +kernel
theorem dX10_redo_20 : decode cX10_redo 20 = .ok (.ireturn, 1) := by decide +kernel
theorem dX10_redo_21 : decode cX10_redo 21 = .ok (.aload_n 0, 1) := by decide +kernel
theorem dX10_redo_22 : decode cX10_redo 22 = .ok (.getfield 57, 3) := by decide +kernel
theorem dX10_redo_25 : decode cX10_redo 25 = .ok (.aload_n 0, 1) := by decide +kernel
theorem dX10_redo_26 : decode cX10_redo 26 = .ok (.getfield 61, 3) := by decide +kernel
theorem dX10_redo_29 : decode cX10_redo 29 = .ok (.invokevirtual 247, 3) := by decide +kernel
theorem dX10_redo_32 : decode cX10_redo 32 = .ok (.checkcast 251, 3) := by decide +kernel
theorem dX10_redo_35 : decode cX10_redo 35 = .ok (.astore_n 1, 1) := by decide +kernel
theorem dX10_redo_36 : decode cX10_redo 36 = .ok (.aload_n 1, 1) := by decide +kernel
theorem dX10_redo_37 : decode cX10_redo 37 = .ok (.invokevirtual 263, 3) := by decide +kernel
theorem dX10_redo_40 : decode cX10_redo 40 = .ok (.aload_n 1, 1) := by decide +kernel
theorem dX10_redo_41 : decode cX10_redo 41 = .ok (.getfield 256, 3) := by decide +kernel
theorem dX10_redo_44 : decode cX10_redo 44 = .ok (.ifnull 15, 3) := by decide +kernel
theorem dX10_redo_47 : decode cX10_redo 47 = .ok (.aload_n 0, 1) := by decide +kernel
theorem dX10_redo_48 : decode cX10_redo 48 = .ok (.getfield 12, 3) := by decide +kernel
theorem dX10_redo_51 : decode cX10_redo 51 = .ok (.aload_n 1, 1) := by decide +kernel
theorem dX10_redo_52 : decode cX10_redo 52 = .ok (.getfield 256, 3) := by decide +kernel
theorem dX10_redo_55 : decode cX10_redo 55 = .ok (.invokevirtual 112, 3) := by decide +kernel
theorem dX10_redo_58 : decode cX10_redo 58 = .ok (.pop, 1) := by decide +kernel
theorem dX10_redo_59 : decode cX10_redo 59 = .ok (.aload_n 0, 1) := by decide +kernel
theorem dX10_redo_60 : decode cX10_redo 60 = .ok (.dup, 1) := by decide +kernel
theorem dX10_redo_61 : decode cX10_redo 61 = .ok (.getfield 61, 3) := by decide +kernel
theorem dX10_redo_64 : decode cX10_redo 64 = .ok (.iconst 1, 1) := by decide +kernel
theorem dX10_redo_65 : decode cX10_redo 65 = .ok (.iadd, 1) := by decide +kernel
theorem dX10_redo_66 : decode cX10_redo 66 = .ok (.putfield 61, 3) := by decide +kernel
theorem dX10_redo_69 : decode cX10_redo 69 = .ok (.aload_n 0, 1) := by decide +kernel
theorem dX10_redo_70 : decode cX10_redo 70 = .ok (.iconst 0, 1) := by decide +kernel
theorem dX10_redo_71 : decode cX10_redo 71 = .ok (.putfield 71, 3) := by decide +kernel
theorem dX10_redo_74 : decode cX10_redo 74 = .ok (.aload_n 0, 1) := by decide +kernel
theorem dX10_redo_75 : decode cX10_redo 75 = .ok (.getfield 61, 3) := by decide +kernel
theorem dX10_redo_78 : decode cX10_redo 78 = .ok (.ireturn, 1) := by decide +kernel
theorem dX10_meets_0 : decode cX10_meets 0 = .ok (.aload_n 0, 1) := by decide +kernel
theorem dX10_meets_1 : decode cX10_meets 1 = .ok (.getfield 12, 3) := by decide +kernel
theorem dX10_meets_4 : decode cX10_meets 4 = .ok (.iload_n 1, 1) := by decide +kernel
theorem dX10_meets_5 : decode cX10_meets 5 = .ok (.invokevirtual 240, 3) := by decide +kernel
theorem dX10_meets_8 : decode cX10_meets 8 = .ok (.astore_n 3, 1) := by decide +kernel
theorem dX10_meets_9 : decode cX10_meets 9 = .ok (.aload_n 0, 1) := by decide +kernel
theorem dX10_meets_10 : decode cX10_meets 10 = .ok (.getfield 12, 3) := by decide +kernel
theorem dX10_meets_13 : decode cX10_meets 13 = .ok (.iload_n 2, 1) := by decide +kernel
theorem dX10_meets_14 : decode cX10_meets 14 = .ok (.invokevirtual 240, 3) := by decide +kernel
theorem dX10_meets_17 : decode cX10_meets 17 = .ok (.astore 4, 2) := by decide +kernel
theorem dX10_meets_19 : decode cX10_meets 19 = .ok (.aload_n 3, 1) := by decide +kernel
theorem dX10_meets_20 : decode cX10_meets 20 = .ok (.ifnull 21, 3) := by decide +kernel
theorem dX10_meets_23 : decode cX10_meets 23 = .ok (.aload 4, 2) := by decide +kernel
theorem dX10_meets_25 : decode cX10_meets 25 = .ok (.ifnull 16, 3) := by decide +kernel
theorem dX10_meets_28 : decode cX10_meets 28 = .ok (.aload_n 3, 1) := by decide +kernel
theorem dX10_meets_29 : decode cX10_meets 29 = .ok (.aload 4, 2) := by decide +kernel
theorem dX10_meets_31 : decode cX10_meets 31 = .ok (.invokevirtual 266, 3) := by decide +kernel
theorem dX10_meets_34 : decode cX10_meets 34 = .ok (.ifCond .eq 7, 3) := by decide +kernel
theorem dX10_meets_37 : decode cX10_meets 37 = .ok (.iconst 1, 1) := by decide +kernel
theorem dX10_meets_38 : decode cX10_meets 38 = .ok (.goto 4, 3) := by decide +kernel
theorem dX10_meets_41 : decode cX10_meets 41 = .ok (.iconst 0, 1) := by decide +kernel
theorem dX10_meets_42 : decode cX10_meets 42 = .ok (.ireturn, 1) := by decide +kernel
theorem dX10_inside_0 : decode cX10_inside 0 = .ok (.aload_n 0, 1) := by decide +kernel
theorem dX10_inside_1 : decode cX10_inside 1 = .ok (.getfield 12, 3) := by decide +kernel
theorem dX10_inside_4 : decode cX10_inside 4 = .ok (.iload_n 3, 1) := by decide +kernel
theorem dX10_inside_5 : decode cX10_inside 5 = .ok (.invokevirtual 240, 3) := by decide +kernel
theorem dX10_inside_8 : decode cX10_inside 8 = .ok (.astore 4, 2) := by decide +kernel
theorem dX10_inside_10 : decode cX10_inside 10 = .ok (.aload 4, 2) := by decide +kernel
theorem dX10_inside_12 : decode cX10_inside 12 = .ok (.ifnull 19, 3) := by decide +kernel
theorem dX10_inside_15 : decode cX10_inside 15 = .ok (.aload 4, 2) := by decide +kernel
theorem dX10_inside_17 : decode cX10_inside 17 = .ok (.getfield 270, 3) := by decide +kernel
theorem dX10_inside_20 : decode cX10_inside 20 = .ok (.ifCond .eq 11, 3) := by decide +kernel
theorem dX10_inside_23 : decode cX10_inside 23 = .ok (.iload_n 1, 1) := by decide +kernel
theorem dX10_inside_24 : decode cX10_inside 24 = .ok (.iload_n 2, 1) := by decide +kernel
theorem dX10_inside_25 : decode cX10_inside 25 = .ok (.invokestatic 123, 3) := by decide +kernel
theorem dX10_inside_28 : decode cX10_inside 28 = .ok (.ifCond .ne 5, 3) := by decide +kernel
theorem dX10_inside_31 : decode cX10_inside 31 = .ok (.iconst (-1), 1) := by decide +kernel
theorem dX10_inside_32 : decode cX10_inside 32 = .ok (.ireturn, 1) := by decide +kernel
theorem dX10_inside_33 : decode cX10_inside 33 = .ok (.aload 4, 2) := by decide +kernel
theorem dX10_inside_35 : decode cX10_inside 35 = .ok (.iload_n 1, 1) := by decide +kernel
theorem dX10_inside_36 : decode cX10_inside 36 = .ok (.iload_n 2, 1) := by decide +kernel
theorem dX10_inside_37 : decode cX10_inside 37 = .ok (.invokevirtual 274, 3) := by decide +kernel
theorem dX10_inside_40 : decode cX10_inside 40 = .ok (.ireturn, 1) := by decide +kernel
theorem dX10_side_0 : decode cX10_side 0 = .ok (.aload_n 0, 1) := by decide +kernel
theorem dX10_side_1 : decode cX10_side 1 = .ok (.getfield 12, 3) := by decide +kernel
theorem dX10_side_4 : decode cX10_side 4 = .ok (.iload_n 3, 1) := by decide +kernel
end
