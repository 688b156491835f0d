theorem dJ6_bitCount_0f7a4_0 : decode cJ6_bitCount_0f7a4 0 = .ok (.iload_n 0, 1) := by decide +kernel
theorem dJ6_bitCount_0f7a4_1 : decode cJ6_bitCount_0f7a4 1 = .ok (.iload_n 0, 1) := by decide +kernel
theorem dJ6_bitCount_0f7a4_2 : decode cJ6_bitCount_0f7a4 2 = .ok (.iconst 1, 1) := by decide +kernel
theorem dJ6_bitCount_0f7a4_3 : decode cJ6_bitCount_0f7a4 3 = .ok (.iushr, 1) := by decide +kernel
theorem dJ6_bitCount_0f7a4_4 : decode cJ6_bitCount_0f7a4 4 = .ok (.ldc_w 265, 3) := by decide +kernel
theorem dJ6_bitCount_0f7a4_7 : decode cJ6_bitCount_0f7a4 7 = .ok (.iand, 1) := by decide +kernel
theorem dJ6_bitCount_0f7a4_8 : decode cJ6_bitCount_0f7a4 8 = .ok (.isub, 1) := by decide +kernel
theorem dJ6_bitCount_0f7a4_9 : decode cJ6_bitCount_0f7a4 9 = .ok (.istore_n 0, 1) := by decide +kernel
theorem dJ6_bitCount_0f7a4_10 : decode cJ6_bitCount_0f7a4 10 = .ok (.iload_n 0, 1) := by decide +kernel
theorem dJ6_bitCount_0f7a4_11 : decode cJ6_bitCount_0f7a4 11 = .ok (.ldc_w 266, 3) := by decide +kernel
theorem dJ6_bitCount_0f7a4_14 : decode cJ6_bitCount_0f7a4 14 = .ok (.iand, 1) := by decide +kernel
theorem dJ6_bitCount_0f7a4_15 : decode cJ6_bitCount_0f7a4 15 = .ok (.iload_n 0, 1) := by decide +kernel
theorem dJ6_bitCount_0f7a4_16 : decode cJ6_bitCount_0f7a4 16 = .ok (.iconst 2, 1) := by decide +kernel
theorem dJ6_bitCount_0f7a4_17 : decode cJ6_bitCount_0f7a4 17 = .ok (.iushr, 1) := by decide +kernel
theorem dJ6_bitCount_0f7a4_18 : decode cJ6_bitCount_0f7a4 18 = .ok (.ldc_w 266, 3) := by decide +kernel
theorem dJ6_bitCount_0f7a4_21 : decode cJ6_bitCount_0f7a4 21 = .ok (.iand, 1) := by decide +kernel
theorem dJ6_bitCount_0f7a4_22 : decode cJ6_bitCount_0f7a4 22 = .ok (.iadd, 1) := by decide +kernel
theorem dJ6_bitCount_0f7a4_23 : decode cJ6_bitCount_0f7a4 23 = .ok (.istore_n 0, 1) := by decide +kernel
theorem dJ6_bitCount_0f7a4_24 : decode cJ6_bitCount_0f7a4 24 = .ok (.iload_n 0, 1) := by decide +kernel
theorem dJ6_bitCount_0f7a4_25 : decode cJ6_bitCount_0f7a4 25 = .ok (.iload_n 0, 1) := by decide +kernel
theorem dJ6_bitCount_0f7a4_26 : decode cJ6_bitCount_0f7a4 26 = .ok (.iconst 4, 1) := by decide +kernel
theorem dJ6_bitCount_0f7a4_27 : decode cJ6_bitCount_0f7a4 27 = .ok (.iushr, 1) := by decide +kernel
theorem dJ6_bitCount_0f7a4_28 : decode cJ6_bitCount_0f7a4 28 = .ok (.iadd, 1) := by decide +kernel
theorem dJ6_bitCount_0f7a4_29 : decode cJ6_bitCount_0f7a4 29 = .ok (.ldc_w 267, 3) := by decide +kernel
theorem dJ6_bitCount_0f7a4_32 : decode cJ6_bitCount_0f7a4 32 = .ok (.iand, 1) := by decide +kernel
theorem dJ6_bitCount_0f7a4_33 : decode cJ6_bitCount_0f7a4 33 = .ok (.istore_n 0, 1) := by decide +kernel
theorem dJ6_bitCount_0f7a4_34 : decode cJ6_bitCount_0f7a4 34 = .ok (.iload_n 0, 1) := by decide +kernel
theorem dJ6_bitCount_0f7a4_35 : decode cJ6_bitCount_0f7a4 35 = .ok (.iload_n 0, 1) := by decide +kernel
theorem dJ6_bitCount_0f7a4_36 : decode cJ6_bitCount_0f7a4 36 = .ok (.bipush 8, 2) := by decide +kernel
theorem dJ6_bitCount_0f7a4_38 : decode cJ6_bitCount_0f7a4 38 = .ok (.iushr, 1) := by decide +kernel
theorem dJ6_bitCount_0f7a4_39 : decode cJ6_bitCount_0f7a4 39 = .ok (.iadd, 1) := by decide +kernel
theorem dJ6_bitCount_0f7a4_40 : decode cJ6_bitCount_0f7a4 40 = .ok (.istore_n 0, 1) := by decide +kernel
theorem dJ6_bitCount_0f7a4_41 : decode cJ6_bitCount_0f7a4 41 = .ok (.iload_n 0, 1) := by decide +kernel
theorem dJ6_bitCount_0f7a4_42 : decode cJ6_bitCount_0f7a4 42 = .ok (.iload_n 0, 1) := by decide +kernel
theorem dJ6_bitCount_0f7a4_43 : decode cJ6_bitCount_0f7a4 43 = .ok (.bipush 16, 2) := by decide +kernel
theorem dJ6_bitCount_0f7a4_45 : decode cJ6_bitCount_0f7a4 45 = .ok (.iushr, 1) := by decide +kernel
theorem dJ6_bitCount_0f7a4_46 : decode cJ6_bitCount_0f7a4 46 = .ok (.iadd, 1) := by decide +kernel
theorem dJ6_bitCount_0f7a4_47 : decode cJ6_bitCount_0f7a4 47 = .ok (.istore_n 0, 1) := by decide +kernel
theorem dJ6_bitCount_0f7a4_48 : decode cJ6_bitCount_0f7a4 48 = .ok (.iload_n 0, 1) := by decide +kernel
theorem dJ6_bitCount_0f7a4_49 : decode cJ6_bitCount_0f7a4 49 = .ok (.bipush 63, 2) := by decide +kernel
theorem dJ6_bitCount_0f7a4_51 : decode cJ6_bitCount_0f7a4 51 = .ok (.iand, 1) := by decide +kernel
theorem dJ6_bitCount_0f7a4_52 : decode cJ6_bitCount_0f7a4 52 = .ok (.ireturn, 1) := by decide +kernel
theorem dJ9_floorMod_7cf53_0 : decode cJ9_floorMod_7cf53 0 = .ok (.iload_n 0, 1) := by decide +kernel
theorem dJ9_floorMod_7cf53_1 : decode cJ9_floorMod_7cf53 1 = .ok (.iload_n 1, 1) := by decide +kernel
theorem dJ9_floorMod_7cf53_2 : decode cJ9_floorMod_7cf53 2 = .ok (.irem, 1) := by decide +kernel
theorem dJ9_floorMod_7cf53_3 : decode cJ9_floorMod_7cf53 3 = .ok (.istore_n 2, 1) := by decide +kernel
theorem dJ9_floorMod_7cf53_4 : decode cJ9_floorMod_7cf53 4 = .ok (.iload_n 0, 1) := by decide +kernel
theorem dJ9_floorMod_7cf53_5 : decode cJ9_floorMod_7cf53 5 = .ok (.iload_n 1, 1) := by decide +kernel
theorem dJ9_floorMod_7cf53_6 : decode cJ9_floorMod_7cf53 6 = .ok (.ixor, 1) := by decide +kernel
theorem dJ9_floorMod_7cf53_7 : decode cJ9_floorMod_7cf53 7 = .ok (.ifCond .ge 11, 3) := by decide +kernel
theorem dJ9_floorMod_7cf53_10 : decode cJ9_floorMod_7cf53 10 = .ok (.iload_n 2, 1) := by decide +kernel
theorem dJ9_floorMod_7cf53_11 : decode cJ9_floorMod_7cf53 11 = .ok (.ifCond .eq 7, 3) := by decide +kernel
theorem dJ9_floorMod_7cf53_14 : decode cJ9_floorMod_7cf53 14 = .ok (.iload_n 2, 1) := by decide +kernel
theorem dJ9_floorMod_7cf53_15 : decode cJ9_floorMod_7cf53 15 = .ok (.iload_n 1, 1) := by decide +kernel
theorem dJ9_floorMod_7cf53_16 : decode cJ9_floorMod_7cf53 16 = .ok (.iadd, 1) := by decide +kernel
theorem dJ9_floorMod_7cf53_17 : decode cJ9_floorMod_7cf53 17 = .ok (.ireturn, 1) := by decide +kernel
theorem dJ9_floorMod_7cf53_18 : decode cJ9_floorMod_7cf53 18 = .ok (.iload_n 2, 1) := by decide +kernel
theorem dJ9_floorMod_7cf53_19 : decode cJ9_floorMod_7cf53 19 = .ok (.ireturn, 1) := by decide +kernel
theorem dJ9_max_7cf53_0 : decode cJ9_max_7cf53 0 = .ok (.iload_n 0, 1) := by decide +kernel
theorem dJ9_max_7cf53_1 : decode cJ9_max_7cf53 1 = .ok (.iload_n 1, 1) := by decide +kernel
theorem dJ9_max_7cf53_2 : decode cJ9_max_7cf53 2 = .ok (.if_icmp .lt 7, 3) := by decide +kernel
theorem dJ9_max_7cf53_5 : decode cJ9_max_7cf53 5 = .ok (.iload_n 0, 1) := by decide +kernel
theorem dJ9_max_7cf53_6 : decode cJ9_max_7cf53 6 = .ok (.goto 4, 3) := by decide +kernel
theorem dJ9_max_7cf53_9 : decode cJ9_max_7cf53 9 = .ok (.iload_n 1, 1) := by decide +kernel
theorem dJ9_max_7cf53_10 : decode cJ9_max_7cf53 10 = .ok (.ireturn, 1) := by decide +kernel
theorem dJ9_min_7cf53_0 : decode cJ9_min_7cf53 0 = .ok (.iload_n 0, 1) := by decide +kernel
theorem dJ9_min_7cf53_1 : decode cJ9_min_7cf53 1 = .ok (.iload_n 1, 1) := by decide +kernel
theorem dJ9_min_7cf53_2 : decode cJ9_min_7cf53 2 = .ok (.if_icmp .gt 7, 3) := by decide +kernel
theorem dJ9_min_7cf53_5 : decode cJ9_min_7cf53 5 = .ok (.iload_n 0, 1) := by decide +kernel
theorem dJ9_min_7cf53_6 : decode cJ9_min_7cf53 6 = .ok (.goto 4, 3) := by decide +kernel
theorem dJ9_min_7cf53_9 : decode cJ9_min_7cf53 9 = .ok (.iload_n 1, 1) := by decide +kernel
theorem dJ9_min_7cf53_10 : decode cJ9_min_7cf53 10 = .ok (.ireturn, 1) := by decide +kernel
theorem dJ7_fill_53178_0 : decode cJ7_fill_53178 0 = .ok (.iconst 0, 1) := by decide +kernel
theorem dJ7_fill_53178_1 : decode cJ7_fill_53178 1 = .ok (.istore_n 2, 1) := by decide +kernel
theorem dJ7_fill_53178_2 : decode cJ7_fill_53178 2 = .ok (.aload_n 0, 1) := by decide +kernel
theorem dJ7_fill_53178_3 : decode cJ7_fill_53178 3 = .ok (.arraylength, 1) := by decide +kernel
theorem dJ7_fill_53178_4 : decode cJ7_fill_53178 4 = .ok (.istore_n 3, 1) := by decide +kernel
theorem dJ7_fill_53178_5 : decode cJ7_fill_53178 5 = .ok (.iload_n 2, 1) := by decide +kernel
theorem dJ7_fill_53178_6 : decode cJ7_fill_53178 6 = .ok (.iload_n 3, 1) := by decide +kernel
theorem dJ7_fill_53178_7 : decode cJ7_fill_53178 7 = .ok (.if_icmp .ge 13, 3) := by decide +kernel
theorem dJ7_fill_53178_10 : decode cJ7_fill_53178 10 = .ok (.aload_n 0, 1) := by decide +kernel
theorem dJ7_fill_53178_11 : decode cJ7_fill_53178 11 = .ok (.iload_n 2, 1) := by decide +kernel
theorem dJ7_fill_53178_12 : decode cJ7_fill_53178 12 = .ok (.iload_n 1, 1) := by decide +kernel
theorem dJ7_fill_53178_13 : decode cJ7_fill_53178 13 = .ok (.iastore, 1) := by decide +kernel
theorem dJ7_fill_53178_14 : decode cJ7_fill_53178 14 = .ok (.iinc 2 1, 3) := by decide +kernel
theorem dJ7_fill_53178_17 : decode cJ7_fill_53178 17 = .ok (.goto (-12), 3) := by decide +kernel
theorem dJ7_fill_53178_20 : decode cJ7_fill_53178 20 = .ok (.return_, 1) := by decide +kernel
theorem dJ7_fill_031fb_0 : decode cJ7_fill_031fb 0 = .ok (.iconst 0, 1) := by decide +kernel
theorem dJ7_fill_031fb_1 : decode cJ7_fill_031fb 1 = .ok (.istore_n 2, 1) := by decide +kernel
theorem dJ7_fill_031fb_2 : decode cJ7_fill_031fb 2 = .ok (.aload_n 0, 1) := by decide +kernel
theorem dJ7_fill_031fb_3 : decode cJ7_fill_031fb 3 = .ok (.arraylength, 1) := by decide +kernel
theorem dJ7_fill_031fb_4 : decode cJ7_fill_031fb 4 = .ok (.istore_n 3, 1) := by decide +kernel
theorem dJ7_fill_031fb_5 : decode cJ7_fill_031fb 5 = .ok (.iload_n 2, 1) := by decide +kernel
theorem dJ7_fill_031fb_6 : decode cJ7_fill_031fb 6 = .ok (.iload_n 3, 1) := by decide +kernel
theorem dJ7_fill_031fb_7 : decode cJ7_fill_031fb 7 = .ok (.if_icmp .ge 13, 3) := by decide +kernel
theorem dJ7_fill_031fb_10 : decode cJ7_fill_031fb 10 = .ok (.aload_n 0, 1) := by decide +kernel
theorem dJ7_fill_031fb_11 : decode cJ7_fill_031fb 11 = .ok (.iload_n 2, 1) := by decide +kernel
theorem dJ7_fill_031fb_12 : decode cJ7_fill_031fb 12 = .ok (.iload_n 1, 1) := by decide +kernel
theorem dJ7_fill_031fb_13 : decode cJ7_fill_031fb 13 = .ok (.bastore, 1) := by decide +kernel
theorem dJ7_fill_031fb_14 : decode cJ7_fill_031fb 14 = .ok (.iinc 2 1, 3) := by decide +kernel
theorem dJ7_fill_031fb_17 : decode cJ7_fill_031fb 17 = .ok (.goto (-12), 3) := by decide +kernel
theorem dJ7_fill_031fb_20 : decode cJ7_fill_031fb 20 = .ok (.return_, 1) := by decide +kernel
theorem dX0_init_0 : decode cX0_init 0 = .ok (.aload_n 0, 1) := by decide +kernel
theorem dX0_init_1 : decode cX0_init 1 = .ok (.invokespecial 3, 3) := by decide +kernel
theorem dX0_init_4 : decode cX0_init 4 = .ok (.return_, 1) := by decide +kernel
theorem dX0_begin_0 : decode cX0_begin 0 = .ok (.aload_n 2, 1) := by decide +kernel
theorem dX0_begin_1 : decode cX0_begin 1 = .ok (.getfield 9, 3) := by decide +kernel
theorem dX0_begin_4 : decode cX0_begin 4 = .ok (.astore_n 3, 1) := by decide +kernel
theorem dX0_begin_5 : decode cX0_begin 5 = .ok (.aload_n 0, 1) := by decide +kernel
theorem dX0_begin_6 : decode cX0_begin 6 = .ok (.iload_n 1, 1) := by decide +kernel
theorem dX0_begin_7 : decode cX0_begin 7 = .ok (.putfield 15, 3) := by decide +kernel
theorem dX0_begin_10 : decode cX0_begin 10 = .ok (.aload_n 0, 1) := by decide +kernel
theorem dX0_begin_11 : decode cX0_begin 11 = .ok (.aload_n 2, 1) := by decide +kernel
theorem dX0_begin_12 : decode cX0_begin 12 = .ok (.getfield 21, 3) := by decide +kernel
theorem dX0_begin_15 : decode cX0_begin 15 = .ok (.putfield 24, 3) := by decide +kernel
theorem dX0_begin_18 : decode cX0_begin 18 = .ok (.aload_n 0, 1) := by decide +kernel
theorem dX0_begin_19 : decode cX0_begin 19 = .ok (.aload_n 3, 1) := by decide +kernel
theorem dX0_begin_20 : decode cX0_begin 20 = .ok (.getfield 25, 3) := by decide +kernel
theorem dX0_begin_23 : decode cX0_begin 23 = .ok (.aload_n 2, 1) := by decide +kernel
theorem dX0_begin_24 : decode cX0_begin 24 = .ok (.getfield 31, 3) := by decide +kernel
theorem dX0_begin_27 : decode cX0_begin 27 = .ok (.iaload, 1) := by decide +kernel
theorem dX0_begin_28 : decode cX0_begin 28 = .ok (.putfield 34, 3) := by decide +kernel
theorem dX0_begin_31 : decode cX0_begin 31 = .ok (.aload_n 0, 1) := by decide +kernel
theorem dX0_begin_32 : decode cX0_begin 32 = .ok (.aload_n 3, 1) := by decide +kernel
theorem dX0_begin_33 : decode cX0_begin 33 = .ok (.getfield 37, 3) := by decide +kernel
theorem dX0_begin_36 : decode cX0_begin 36 = .ok (.aload_n 2, 1) := by decide +kernel
theorem dX0_begin_37 : decode cX0_begin 37 = .ok (.getfield 31, 3) := by decide +kernel
theorem dX0_begin_40 : decode cX0_begin 40 = .ok (.iaload, 1) := by decide +kernel
theorem dX0_begin_41 : decode cX0_begin 41 = .ok (.putfield 40, 3) := by decide +kernel
theorem dX0_begin_44 : decode cX0_begin 44 = .ok (.aload_n 0, 1) := by decide +kernel
theorem dX0_begin_45 : decode cX0_begin 45 = .ok (.aload_n 3, 1) := by decide +kernel
theorem dX0_begin_46 : decode cX0_begin 46 = .ok (.getfield 43, 3) := by decide +kernel
theorem dX0_begin_49 : decode cX0_begin 49 = .ok (.aload_n 2, 1) := by decide +kernel
theorem dX0_begin_50 : decode cX0_begin 50 = .ok (.getfield 31, 3) := by decide +kernel
theorem dX0_begin_53 : decode cX0_begin 53 = .ok (.baload, 1) := by decide +kernel
theorem dX0_begin_54 : decode cX0_begin 54 = .ok (.putfield 47, 3) := by decide +kernel
theorem dX0_begin_57 : decode cX0_begin 57 = .ok (.aload_n 0, 1) := by decide +kernel
theorem dX0_begin_58 : decode cX0_begin 58 = .ok (.aload_n 3, 1) := by decide +kernel
theorem dX0_begin_59 : decode cX0_begin 59 = .ok (.getfield 50, 3) := by decide +kernel
theorem dX0_begin_62 : decode cX0_begin 62 = .ok (.aload_n 2, 1) := by decide +kernel
theorem dX0_begin_63 : decode cX0_begin 63 = .ok (.getfield 31, 3) := by decide +kernel
theorem dX0_begin_66 : decode cX0_begin 66 = .ok (.iaload, 1) := by decide +kernel
theorem dX0_begin_67 : decode cX0_begin 67 = .ok (.putfield 53, 3) := by decide +kernel
theorem dX0_begin_70 : decode cX0_begin 70 = .ok (.aload_n 0, 1) := by decide +kernel
theorem dX0_begin_71 : decode cX0_begin 71 = .ok (.iconst (-1), 1) := by decide +kernel
theorem dX0_begin_72 : decode cX0_begin 72 = .ok (.putfield 56, 3) := by decide +kernel
theorem dX0_begin_75 : decode cX0_begin 75 = .ok (.aload_n 0, 1) := by decide +kernel
theorem dX0_begin_76 : decode cX0_begin 76 = .ok (.iconst 0, 1) := by decide +kernel
theorem dX0_begin_77 : decode cX0_begin 77 = .ok (.putfield 59, 3) := by decide +kernel
theorem dX0_begin_80 : decode cX0_begin 80 = .ok (.aload_n 0, 1) := by decide +kernel
theorem dX0_begin_81 : decode cX0_begin 81 = .ok (.iconst 0, 1) := by decide +kernel
theorem dX0_begin_82 : decode cX0_begin 82 = .ok (.putfield 62, 3) := by decide +kernel
theorem dX0_begin_85 : decode cX0_begin 85 = .ok (.aload_n 0, 1) := by decide +kernel
theorem dX0_begin_86 : decode cX0_begin 86 = .ok (.iconst 0, 1) := by decide +kernel
theorem dX0_begin_87 : decode cX0_begin 87 = .ok (.putfield 65, 3) := by decide +kernel
theorem dX0_begin_90 : decode cX0_begin 90 = .ok (.return_, 1) := by decide +kernel
theorem dX1_init_0 : decode cX1_init 0 = .ok (.aload_n 0, 1) := by decide +kernel
theorem dX1_init_1 : decode cX1_init 1 = .ok (.invokespecial 3, 3) := by decide +kernel
theorem dX1_init_4 : decode cX1_init 4 = .ok (.aload_n 0, 1) := by decide +kernel
theorem dX1_init_5 : decode cX1_init 5 = .ok (.bipush 16, 2) := by decide +kernel
theorem dX1_init_7 : decode cX1_init 7 = .ok (.newarray .int, 2) := by decide +kernel
theorem dX1_init_9 : decode cX1_init 9 = .ok (.putfield 9, 3) := by decide +kernel
theorem dX1_init_12 : decode cX1_init 12 = .ok (.aload_n 0, 1) := by decide +kernel
theorem dX1_init_13 : decode cX1_init 13 = .ok (.bipush 16, 2) := by decide +kernel
theorem dX1_init_15 : decode cX1_init 15 = .ok (.newarray .int, 2) := by decide +kernel
theorem dX1_init_17 : decode cX1_init 17 = .ok (.putfield 15, 3) := by decide +kernel
theorem dX1_init_20 : decode cX1_init 20 = .ok (.aload_n 0, 1) := by decide +kernel
theorem dX1_init_21 : decode cX1_init 21 = .ok (.bipush 16, 2) := by decide +kernel
theorem dX1_init_23 : decode cX1_init 23 = .ok (.newarray .int, 2) := by decide +kernel
theorem dX1_init_25 : decode cX1_init 25 = .ok (.putfield 18, 3) := by decide +kernel
theorem dX1_init_28 : decode cX1_init 28 = .ok (.aload_n 0, 1) := by decide +kernel
theorem dX1_init_29 : decode cX1_init 29 = .ok (.bipush 16, 2) := by decide +kernel
theorem dX1_init_31 : decode cX1_init 31 = .ok (.newarray .int, 2) := by decide +kernel
theorem dX1_init_33 : decode cX1_init 33 = .ok (.putfield 21, 3) := by decide +kernel
theorem dX1_init_36 : decode cX1_init 36 = .ok (.aload_n 0, 1) := by decide +kernel
theorem dX1_init_37 : decode cX1_init 37 = .ok (.iload_n 1, 1) := by decide +kernel
theorem dX1_init_38 : decode cX1_init 38 = .ok (.putfield 24, 3) := by decide +kernel
theorem dX1_init_41 : decode cX1_init 41 = .ok (.aload_n 0, 1) := by decide +kernel
theorem dX1_init_42 : decode cX1_init 42 = .ok (.iload_n 2, 1) := by decide +kernel
theorem dX1_init_43 : decode cX1_init 43 = .ok (.putfield 28, 3) := by decide +kernel
theorem dX1_init_46 : decode cX1_init 46 = .ok (.aload_n 0, 1) := by decide +kernel
theorem dX1_init_47 : decode cX1_init 47 = .ok (.iload_n 3, 1) := by decide +kernel
theorem dX1_init_48 : decode cX1_init 48 = .ok (.putfield 31, 3) := by decide +kernel
theorem dX1_init_51 : decode cX1_init 51 = .ok (.aload_n 0, 1) := by decide +kernel
theorem dX1_init_52 : decode cX1_init 52 = .ok (.getfield 9, 3) := by decide +kernel
theorem dX1_init_55 : decode cX1_init 55 = .ok (.iconst 2, 1) := by decide +kernel
theorem dX1_init_56 : decode cX1_init 56 = .ok (.invokestatic 34, 3) := by decide +kernel
theorem dX1_init_59 : decode cX1_init 59 = .ok (.aload_n 0, 1) := by decide +kernel
theorem dX1_init_60 : decode cX1_init 60 = .ok (.getfield 15, 3) := by decide +kernel
theorem dX1_init_63 : decode cX1_init 63 = .ok (.iconst 2, 1) := by decide +kernel
theorem dX1_init_64 : decode cX1_init 64 = .ok (.invokestatic 34, 3) := by decide +kernel
theorem dX1_init_67 : decode cX1_init 67 = .ok (.aload_n 0, 1) := by decide +kernel
theorem dX1_init_68 : decode cX1_init 68 = .ok (.invokevirtual 40, 3) := by decide +kernel
theorem dX1_init_71 : decode cX1_init 71 = .ok (.return_, 1) := by decide +kernel
theorem dX1_has_0 : decode cX1_has 0 = .ok (.iload_n 1, 1) := by decide +kernel
theorem dX1_has_1 : decode cX1_has 1 = .ok (.iconst 0, 1) := by decide +kernel
theorem dX1_has_2 : decode cX1_has 2 = .ok (.aload_n 0, 1) := by decide +kernel
theorem dX1_has_3 : decode cX1_has 3 = .ok (.getfield 24, 3) := by decide +kernel
theorem dX1_has_6 : decode cX1_has 6 = .ok (.iconst 1, 1) := by decide +kernel
theorem dX1_has_7 : decode cX1_has 7 = .ok (.isub, 1) := by decide +kernel
theorem dX1_has_8 : decode cX1_has 8 = .ok (.invokestatic 43, 3) := by decide +kernel
theorem dX1_has_11 : decode cX1_has 11 = .ok (.ireturn, 1) := by decide +kernel
theorem dX1_joins_0 : decode cX1_joins 0 = .ok (.aload_n 0, 1) := by decide +kernel
theorem dX1_joins_1 : decode cX1_joins 1 = .ok (.iload_n 1, 1) := by decide +kernel
theorem dX1_joins_2 : decode cX1_joins 2 = .ok (.invokevirtual 47, 3) := by decide +kernel
theorem dX1_joins_5 : decode cX1_joins 5 = .ok (.ifCond .eq 20, 3) := by decide +kernel
theorem dX1_joins_8 : decode cX1_joins 8 = .ok (.aload_n 0, 1) := by decide +kernel
theorem dX1_joins_9 : decode cX1_joins 9 = .ok (.iload_n 2, 1) := by decide +kernel
theorem dX1_joins_10 : decode cX1_joins 10 = .ok (.invokevirtual 47, 3) := by decide +kernel
theorem dX1_joins_13 : decode cX1_joins 13 = .ok (.ifCond .eq 12, 3) := by decide +kernel
theorem dX1_joins_16 : decode cX1_joins 16 = .ok (.iload_n 1, 1) := by decide +kernel
theorem dX1_joins_17 : decode cX1_joins 17 = .ok (.iload_n 2, 1) := by decide +kernel
theorem dX1_joins_18 : decode cX1_joins 18 = .ok (.if_icmp .eq 7, 3) := by decide +kernel
theorem dX1_joins_21 : decode cX1_joins 21 = .ok (.iconst 1, 1) := by decide +kernel
theorem dX1_joins_22 : decode cX1_joins 22 = .ok (.goto 4, 3) := by decide +kernel
theorem dX1_joins_25 : decode cX1_joins 25 = .ok (.iconst 0, 1) := by decide +kernel
theorem dX1_joins_26 : decode cX1_joins 26 = .ok (.ireturn, 1) := by decide +kernel
theorem dX1_edge_0 : decode cX1_edge 0 = .ok (.iload_n 1, 1) := by decide +kernel
theorem dX1_edge_1 : decode cX1_edge 1 = .ok (.iload_n 2, 1) := by decide +kernel
theorem dX1_edge_2 : decode cX1_edge 2 = .ok (.invokestatic 51, 3) := by decide +kernel
theorem dX1_edge_5 : decode cX1_edge 5 = .ok (.iconst 4, 1) := by decide +kernel
theorem dX1_edge_6 : decode cX1_edge 6 = .ok (.imul, 1) := by decide +kernel
theorem dX1_edge_7 : decode cX1_edge 7 = .ok (.iload_n 1, 1) := by decide +kernel
theorem dX1_edge_8 : decode cX1_edge 8 = .ok (.iload_n 2, 1) := by decide +kernel
theorem dX1_edge_9 : decode cX1_edge 9 = .ok (.invokestatic 57, 3) := by decide +kernel
theorem dX1_edge_12 : decode cX1_edge 12 = .ok (.iadd, 1) := by decide +kernel
theorem dX1_edge_13 : decode cX1_edge 13 = .ok (.ireturn, 1) := by decide +kernel
theorem dX1_setLink_0 : decode cX1_setLink 0 = .ok (.aload_n 0, 1) := by decide +kernel
theorem dX1_setLink_1 : decode cX1_setLink 1 = .ok (.getfield 9, 3) := by decide +kernel
theorem dX1_setLink_4 : decode cX1_setLink 4 = .ok (.aload_n 0, 1) := by decide +kernel
theorem dX1_setLink_5 : decode cX1_setLink 5 = .ok (.iload_n 1, 1) := by decide +kernel
theorem dX1_setLink_6 : decode cX1_setLink 6 = .ok (.iload_n 2, 1) := by decide +kernel
theorem dX1_setLink_7 : decode cX1_setLink 7 = .ok (.invokevirtual 60, 3) := by decide +kernel
theorem dX1_setLink_10 : decode cX1_setLink 10 = .ok (.iload_n 3, 1) := by decide +kernel
theorem dX1_setLink_11 : decode cX1_setLink 11 = .ok (.iastore, 1) := by decide +kernel
theorem dX1_setLink_12 : decode cX1_setLink 12 = .ok (.aload_n 0, 1) := by decide +kernel
theorem dX1_setLink_13 : decode cX1_setLink 13 = .ok (.getfield 15, 3) := by decide +kernel
theorem dX1_setLink_16 : decode cX1_setLink 16 = .ok (.aload_n 0, 1) := by decide +kernel
theorem dX1_setLink_17 : decode cX1_setLink 17 = .ok (.iload_n 1, 1) := by decide +kernel
theorem dX1_setLink_18 : decode cX1_setLink 18 = .ok (.iload_n 2, 1) := by decide +kernel
theorem dX1_setLink_19 : decode cX1_setLink 19 = .ok (.invokevirtual 60, 3) := by decide +kernel
theorem dX1_setLink_22 : decode cX1_setLink 22 = .ok (.iload 4, 2) := by decide +kernel
theorem dX1_setLink_24 : decode cX1_setLink 24 = .ok (.iastore, 1) := by decide +kernel
theorem dX1_setLink_25 : decode cX1_setLink 25 = .ok (.aload_n 0, 1) := by decide +kernel
theorem dX1_setLink_26 : decode cX1_setLink 26 = .ok (.invokevirtual 40, 3) := by decide +kernel
theorem dX1_setLink_29 : decode cX1_setLink 29 = .ok (.return_, 1) := by decide +kernel
theorem dX1_distance_0 : decode cX1_distance 0 = .ok (.aload_n 0, 1) := by decide +kernel
theorem dX1_distance_1 : decode cX1_distance 1 = .ok (.getfield 18, 3) := by decide +kernel
theorem dX1_distance_4 : decode cX1_distance 4 = .ok (.iload_n 1, 1) := by decide +kernel
theorem dX1_distance_5 : decode cX1_distance 5 = .ok (.iconst 4, 1) := by decide +kernel
theorem dX1_distance_6 : decode cX1_distance 6 = .ok (.imul, 1) := by decide +kernel
theorem dX1_distance_7 : decode cX1_distance 7 = .ok (.iload_n 2, 1) := by decide +kernel
theorem dX1_distance_8 : decode cX1_distance 8 = .ok (.iadd, 1) := by decide +kernel
theorem dX1_distance_9 : decode cX1_distance 9 = .ok (.iaload, 1) := by decide +kernel
theorem dX1_distance_10 : decode cX1_distance 10 = .ok (.ireturn, 1) := by decide +kernel
theorem dX1_reaches_0 : decode cX1_reaches 0 = .ok (.aload_n 0, 1) := by decide +kernel
theorem dX1_reaches_1 : decode cX1_reaches 1 = .ok (.getfield 18, 3) := by decide +kernel
theorem dX1_reaches_4 : decode cX1_reaches 4 = .ok (.iload_n 1, 1) := by decide +kernel
theorem dX1_reaches_5 : decode cX1_reaches 5 = .ok (.iconst 4, 1) := by decide +kernel
theorem dX1_reaches_6 : decode cX1_reaches 6 = .ok (.imul, 1) := by decide +kernel
theorem dX1_reaches_7 : decode cX1_reaches 7 = .ok (.iload_n 2, 1) := by decide +kernel
theorem dX1_reaches_8 : decode cX1_reaches 8 = .ok (.iadd, 1) := by decide +kernel
theorem dX1_reaches_9 : decode cX1_reaches 9 = .ok (.iaload, 1) := by decide +kernel
theorem dX1_reaches_10 : decode cX1_reaches 10 = .ok (.sipush 1000, 3) := by decide +kernel
theorem dX1_reaches_13 : decode cX1_reaches 13 = .ok (.if_icmp .ge 7, 3) := by decide +kernel
theorem dX1_reaches_16 : decode cX1_reaches 16 = .ok (.iconst 1, 1) := by decide +kernel
theorem dX1_reaches_17 : decode cX1_reaches 17 = .ok (.goto 4, 3) := by decide +kernel
theorem dX1_reaches_20 : decode cX1_reaches 20 = .ok (.iconst 0, 1) := by decide +kernel
theorem dX1_reaches_21 : decode cX1_reaches 21 = .ok (.ireturn, 1) := by decide +kernel
theorem dX1_nextNode_0 : decode cX1_nextNode 0 = .ok (.aload_n 0, 1) := by decide +kernel
theorem dX1_nextNode_1 : decode cX1_nextNode 1 = .ok (.getfield 21, 3) := by decide +kernel
theorem dX1_nextNode_4 : decode cX1_nextNode 4 = .ok (.iload_n 1, 1) := by decide +kernel
theorem dX1_nextNode_5 : decode cX1_nextNode 5 = .ok (.iconst 4, 1) := by decide +kernel
theorem dX1_nextNode_6 : decode cX1_nextNode 6 = .ok (.imul, 1) := by decide +kernel
theorem dX1_nextNode_7 : decode cX1_nextNode 7 = .ok (.iload_n 2, 1) := by decide +kernel
theorem dX1_nextNode_8 : decode cX1_nextNode 8 = .ok (.iadd, 1) := by decide +kernel
theorem dX1_nextNode_9 : decode cX1_nextNode 9 = .ok (.iaload, 1) := by decide +kernel
theorem dX1_nextNode_10 : decode cX1_nextNode 10 = .ok (.ireturn, 1) := by decide +kernel
theorem dX1_measure_0 : decode cX1_measure 0 = .ok (.iconst 0, 1) := by decide +kernel
theorem dX1_measure_1 : decode cX1_measure 1 = .ok (.istore_n 1, 1) := by decide +kernel
theorem dX1_measure_2 : decode cX1_measure 2 = .ok (.iload_n 1, 1) := by decide +kernel
theorem dX1_measure_3 : decode cX1_measure 3 = .ok (.aload_n 0, 1) := by decide +kernel
theorem dX1_measure_4 : decode cX1_measure 4 = .ok (.getfield 24, 3) := by decide +kernel
theorem dX1_measure_7 : decode cX1_measure 7 = .ok (.if_icmp .ge 41, 3) := by decide +kernel
theorem dX1_measure_10 : decode cX1_measure 10 = .ok (.iconst 0, 1) := by decide +kernel
theorem dX1_measure_11 : decode cX1_measure 11 = .ok (.istore_n 2, 1) := by decide +kernel
theorem dX1_measure_12 : decode cX1_measure 12 = .ok (.iload_n 2, 1) := by decide +kernel
theorem dX1_measure_13 : decode cX1_measure 13 = .ok (.aload_n 0, 1) := by decide +kernel
theorem dX1_measure_14 : decode cX1_measure 14 = .ok (.getfield 24, 3) := by decide +kernel
theorem dX1_measure_17 : decode cX1_measure 17 = .ok (.if_icmp .ge 25, 3) := by decide +kernel
theorem dX1_measure_20 : decode cX1_measure 20 = .ok (.aload_n 0, 1) := by decide +kernel
theorem dX1_measure_21 : decode cX1_measure 21 = .ok (.getfield 18, 3) := by decide +kernel
theorem dX1_measure_24 : decode cX1_measure 24 = .ok (.iload_n 1, 1) := by decide +kernel
theorem dX1_measure_25 : decode cX1_measure 25 = .ok (.iconst 4, 1) := by decide +kernel
theorem dX1_measure_26 : decode cX1_measure 26 = .ok (.imul, 1) := by decide +kernel
theorem dX1_measure_27 : decode cX1_measure 27 = .ok (.iload_n 2, 1) := by decide +kernel
theorem dX1_measure_28 : decode cX1_measure 28 = .ok (.iadd, 1) := by decide +kernel
theorem dX1_measure_29 : decode cX1_measure 29 = .ok (.aload_n 0, 1) := by decide +kernel
theorem dX1_measure_30 : decode cX1_measure 30 = .ok (.iload_n 1, 1) := by decide +kernel
theorem dX1_measure_31 : decode cX1_measure 31 = .ok (.iload_n 2, 1) := by decide +kernel
theorem dX1_measure_32 : decode cX1_measure 32 = .ok (.invokevirtual 63, 3) := by decide +kernel
theorem dX1_measure_35 : decode cX1_measure 35 = .ok (.iastore, 1) := by decide +kernel
theorem dX1_measure_36 : decode cX1_measure 36 = .ok (.iinc 2 1, 3) := by decide +kernel
theorem dX1_measure_39 : decode cX1_measure 39 = .ok (.goto (-27), 3) := by decide +kernel
theorem dX1_measure_42 : decode cX1_measure 42 = .ok (.iinc 1 1, 3) := by decide +kernel
theorem dX1_measure_45 : decode cX1_measure 45 = .ok (.goto (-43), 3) := by decide +kernel
theorem dX1_measure_48 : decode cX1_measure 48 = .ok (.iconst 0, 1) := by decide +kernel
theorem dX1_measure_49 : decode cX1_measure 49 = .ok (.istore_n 1, 1) := by decide +kernel
theorem dX1_measure_50 : decode cX1_measure 50 = .ok (.iload_n 1, 1) := by decide +kernel
theorem dX1_measure_51 : decode cX1_measure 51 = .ok (.aload_n 0, 1) := by decide +kernel
theorem dX1_measure_52 : decode cX1_measure 52 = .ok (.getfield 24, 3) := by decide +kernel
theorem dX1_measure_55 : decode cX1_measure 55 = .ok (.if_icmp .ge 14, 3) := by decide +kernel
theorem dX1_measure_58 : decode cX1_measure 58 = .ok (.aload_n 0, 1) := by decide +kernel
theorem dX1_measure_59 : decode cX1_measure 59 = .ok (.iload_n 1, 1) := by decide +kernel
theorem dX1_measure_60 : decode cX1_measure 60 = .ok (.invokevirtual 66, 3) := by decide +kernel
theorem dX1_measure_63 : decode cX1_measure 63 = .ok (.iinc 1 1, 3) := by decide +kernel
theorem dX1_measure_66 : decode cX1_measure 66 = .ok (.goto (-16), 3) := by decide +kernel
theorem dX1_measure_69 : decode cX1_measure 69 = .ok (.iconst 0, 1) := by decide +kernel
theorem dX1_measure_70 : decode cX1_measure 70 = .ok (.istore_n 1, 1) := by decide +kernel
theorem dX1_measure_71 : decode cX1_measure 71 = .ok (.iload_n 1, 1) := by decide +kernel
theorem dX1_measure_72 : decode cX1_measure 72 = .ok (.aload_n 0, 1) := by decide +kernel
theorem dX1_measure_73 : decode cX1_measure 73 = .ok (.getfield 24, 3) := by decide +kernel
theorem dX1_measure_76 : decode cX1_measure 76 = .ok (.if_icmp .ge 41, 3) := by decide +kernel
theorem dX1_measure_79 : decode cX1_measure 79 = .ok (.iconst 0, 1) := by decide +kernel
theorem dX1_measure_80 : decode cX1_measure 80 = .ok (.istore_n 2, 1) := by decide +kernel
theorem dX1_measure_81 : decode cX1_measure 81 = .ok (.iload_n 2, 1) := by decide +kernel
theorem dX1_measure_82 : decode cX1_measure 82 = .ok (.aload_n 0, 1) := by decide +kernel
theorem dX1_measure_83 : decode cX1_measure 83 = .ok (.getfield 24, 3) := by decide +kernel
theorem dX1_measure_86 : decode cX1_measure 86 = .ok (.if_icmp .ge 25, 3) := by decide +kernel
theorem dX1_measure_89 : decode cX1_measure 89 = .ok (.aload_n 0, 1) := by decide +kernel
theorem dX1_measure_90 : decode cX1_measure 90 = .ok (.getfield 21, 3) := by decide +kernel
theorem dX1_measure_93 : decode cX1_measure 93 = .ok (.iload_n 1, 1) := by decide +kernel
theorem dX1_measure_94 : decode cX1_measure 94 = .ok (.iconst 4, 1) := by decide +kernel
theorem dX1_measure_95 : decode cX1_measure 95 = .ok (.imul, 1) := by decide +kernel
theorem dX1_measure_96 : decode cX1_measure 96 = .ok (.iload_n 2, 1) := by decide +kernel
theorem dX1_measure_97 : decode cX1_measure 97 = .ok (.iadd, 1) := by decide +kernel
theorem dX1_measure_98 : decode cX1_measure 98 = .ok (.aload_n 0, 1) := by decide +kernel
theorem dX1_measure_99 : decode cX1_measure 99 = .ok (.iload_n 1, 1) := by decide +kernel
theorem dX1_measure_100 : decode cX1_measure 100 = .ok (.iload_n 2, 1) := by decide +kernel
theorem dX1_measure_101 : decode cX1_measure 101 = .ok (.invokevirtual 70, 3) := by decide +kernel
theorem dX1_measure_104 : decode cX1_measure 104 = .ok (.iastore, 1) := by decide +kernel
theorem dX1_measure_105 : decode cX1_measure 105 = .ok (.iinc 2 1, 3) := by decide +kernel
theorem dX1_measure_108 : decode cX1_measure 108 = .ok (.goto (-27), 3) := by decide +kernel
theorem dX1_measure_111 : decode cX1_measure 111 = .ok (.iinc 1 1, 3) := by decide +kernel
theorem dX1_measure_114 : decode cX1_measure 114 = .ok (.goto (-43), 3) := by decide +kernel
theorem dX1_measure_117 : decode cX1_measure 117 = .ok (.return_, 1) := by decide +kernel
theorem dX1_direct_0 : decode cX1_direct 0 = .ok (.iload_n 1, 1) := by decide +kernel
theorem dX1_direct_1 : decode cX1_direct 1 = .ok (.iload_n 2, 1) := by decide +kernel
theorem dX1_direct_2 : decode cX1_direct 2 = .ok (.if_icmp .ne 5, 3) := by decide +kernel
theorem dX1_direct_5 : decode cX1_direct 5 = .ok (.iconst 0, 1) := by decide +kernel
theorem dX1_direct_6 : decode cX1_direct 6 = .ok (.ireturn, 1) := by decide +kernel
theorem dX1_direct_7 : decode cX1_direct 7 = .ok (.aload_n 0, 1) := by decide +kernel
theorem dX1_direct_8 : decode cX1_direct 8 = .ok (.getfield 9, 3) := by decide +kernel
theorem dX1_direct_11 : decode cX1_direct 11 = .ok (.aload_n 0, 1) := by decide +kernel
theorem dX1_direct_12 : decode cX1_direct 12 = .ok (.iload_n 1, 1) := by decide +kernel
theorem dX1_direct_13 : decode cX1_direct 13 = .ok (.iload_n 2, 1) := by decide +kernel
theorem dX1_direct_14 : decode cX1_direct 14 = .ok (.invokevirtual 60, 3) := by decide +kernel
theorem dX1_direct_17 : decode cX1_direct 17 = .ok (.iaload, 1) := by decide +kernel
theorem dX1_direct_18 : decode cX1_direct 18 = .ok (.istore_n 3, 1) := by decide +kernel
theorem dX1_direct_19 : decode cX1_direct 19 = .ok (.iload_n 3, 1) := by decide +kernel
theorem dX1_direct_20 : decode cX1_direct 20 = .ok (.ifCond .ne 9, 3) := by decide +kernel
theorem dX1_direct_23 : decode cX1_direct 23 = .ok (.sipush 1000, 3) := by decide +kernel
theorem dX1_direct_26 : decode cX1_direct 26 = .ok (.goto 4, 3) := by decide +kernel
theorem dX1_direct_29 : decode cX1_direct 29 = .ok (.iload_n 3, 1) := by decide +kernel
theorem dX1_direct_30 : decode cX1_direct 30 = .ok (.ireturn, 1) := by decide +kernel
theorem dX1_shortenOver_0 : decode cX1_shortenOver 0 = .ok (.iconst 0, 1) := by decide +kernel
theorem dX1_shortenOver_1 : decode cX1_shortenOver 1 = .ok (.istore_n 2, 1) := by decide +kernel
theorem dX1_shortenOver_2 : decode cX1_shortenOver 2 = .ok (.iload_n 2, 1) := by decide +kernel
theorem dX1_shortenOver_3 : decode cX1_shortenOver 3 = .ok (.aload_n 0, 1) := by decide +kernel
theorem dX1_shortenOver_4 : decode cX1_shortenOver 4 = .ok (.getfield 24, 3) := by decide +kernel
theorem dX1_shortenOver_7 : decode cX1_shortenOver 7 = .ok (.if_icmp .ge 63, 3) := by decide +kernel
theorem dX1_shortenOver_10 : decode cX1_shortenOver 10 = .ok (.iconst 0, 1) := by decide +kernel
theorem dX1_shortenOver_11 : decode cX1_shortenOver 11 = .ok (.istore_n 3, 1) := by decide +kernel
theorem dX1_shortenOver_12 : decode cX1_shortenOver 12 = .ok (.iload_n 3, 1) := by decide +kernel
theorem dX1_shortenOver_13 : decode cX1_shortenOver 13 = .ok (.aload_n 0, 1) := by decide +kernel
theorem dX1_shortenOver_14 : decode cX1_shortenOver 14 = .ok (.getfield 24, 3) := by decide +kernel
theorem dX1_shortenOver_17 : decode cX1_shortenOver 17 = .ok (.if_icmp .ge 47, 3) := by decide +kernel
theorem dX1_shortenOver_20 : decode cX1_shortenOver 20 = .ok (.aload_n 0, 1) := by decide +kernel
theorem dX1_shortenOver_21 : decode cX1_shortenOver 21 = .ok (.iload_n 2, 1) := by decide +kernel
theorem dX1_shortenOver_22 : decode cX1_shortenOver 22 = .ok (.iload_n 1, 1) := by decide +kernel
theorem dX1_shortenOver_23 : decode cX1_shortenOver 23 = .ok (.invokevirtual 73, 3) := by decide +kernel
theorem dX1_shortenOver_26 : decode cX1_shortenOver 26 = .ok (.aload_n 0, 1) := by decide +kernel
theorem dX1_shortenOver_27 : decode cX1_shortenOver 27 = .ok (.iload_n 1, 1) := by decide +kernel
theorem dX1_shortenOver_28 : decode cX1_shortenOver 28 = .ok (.iload_n 3, 1) := by decide +kernel
theorem dX1_shortenOver_29 : decode cX1_shortenOver 29 = .ok (.invokevirtual 73, 3) := by decide +kernel
theorem dX1_shortenOver_32 : decode cX1_shortenOver 32 = .ok (.iadd, 1) := by decide +kernel
theorem dX1_shortenOver_33 : decode cX1_shortenOver 33 = .ok (.istore 4, 2) := by decide +kernel
theorem dX1_shortenOver_35 : decode cX1_shortenOver 35 = .ok (.iload 4, 2) := by decide +kernel
theorem dX1_shortenOver_37 : decode cX1_shortenOver 37 = .ok (.aload_n 0, 1) := by decide +kernel
theorem dX1_shortenOver_38 : decode cX1_shortenOver 38 = .ok (.iload_n 2, 1) := by decide +kernel
theorem dX1_shortenOver_39 : decode cX1_shortenOver 39 = .ok (.iload_n 3, 1) := by decide +kernel
theorem dX1_shortenOver_40 : decode cX1_shortenOver 40 = .ok (.invokevirtual 73, 3) := by decide +kernel
theorem dX1_shortenOver_43 : decode cX1_shortenOver 43 = .ok (.if_icmp .ge 15, 3) := by decide +kernel
theorem dX1_shortenOver_46 : decode cX1_shortenOver 46 = .ok (.aload_n 0, 1) := by decide +kernel
theorem dX1_shortenOver_47 : decode cX1_shortenOver 47 = .ok (.getfield 18, 3) := by decide +kernel
theorem dX1_shortenOver_50 : decode cX1_shortenOver 50 = .ok (.iload_n 2, 1) := by decide +kernel
theorem dX1_shortenOver_51 : decode cX1_shortenOver 51 = .ok (.iconst 4, 1) := by decide +kernel
theorem dX1_shortenOver_52 : decode cX1_shortenOver 52 = .ok (.imul, 1) := by decide +kernel
theorem dX1_shortenOver_53 : decode cX1_shortenOver 53 = .ok (.iload_n 3, 1) := by decide +kernel
theorem dX1_shortenOver_54 : decode cX1_shortenOver 54 = .ok (.iadd, 1) := by decide +kernel
theorem dX1_shortenOver_55 : decode cX1_shortenOver 55 = .ok (.iload 4, 2) := by decide +kernel
theorem dX1_shortenOver_57 : decode cX1_shortenOver 57 = .ok (.iastore, 1) := by decide +kernel
theorem dX1_shortenOver_58 : decode cX1_shortenOver 58 = .ok (.iinc 3 1, 3) := by decide +kernel
theorem dX1_shortenOver_61 : decode cX1_shortenOver 61 = .ok (.goto (-49), 3) := by decide +kernel
theorem dX1_shortenOver_64 : decode cX1_shortenOver 64 = .ok (.iinc 2 1, 3) := by decide +kernel
theorem dX1_shortenOver_67 : decode cX1_shortenOver 67 = .ok (.goto (-65), 3) := by decide +kernel
theorem dX1_shortenOver_70 : decode cX1_shortenOver 70 = .ok (.return_, 1) := by decide +kernel
theorem dX1_leastHop_0 : decode cX1_leastHop 0 = .ok (.iconst 0, 1) := by decide +kernel
theorem dX1_leastHop_1 : decode cX1_leastHop 1 = .ok (.istore_n 3, 1) := by decide +kernel
theorem dX1_leastHop_2 : decode cX1_leastHop 2 = .ok (.iload_n 3, 1) := by decide +kernel
theorem dX1_leastHop_3 : decode cX1_leastHop 3 = .ok (.aload_n 0, 1) := by decide +kernel
theorem dX1_leastHop_4 : decode cX1_leastHop 4 = .ok (.getfield 24, 3) := by decide +kernel
theorem dX1_leastHop_7 : decode cX1_leastHop 7 = .ok (.if_icmp .ge 52, 3) := by decide +kernel
theorem dX1_leastHop_10 : decode cX1_leastHop 10 = .ok (.iload_n 1, 1) := by decide +kernel
theorem dX1_leastHop_11 : decode cX1_leastHop 11 = .ok (.iload_n 2, 1) := by decide +kernel
theorem dX1_leastHop_12 : decode cX1_leastHop 12 = .ok (.if_icmp .eq 47, 3) := by decide +kernel
theorem dX1_leastHop_15 : decode cX1_leastHop 15 = .ok (.aload_n 0, 1) := by decide +kernel
theorem dX1_leastHop_16 : decode cX1_leastHop 16 = .ok (.iload_n 1, 1) := by decide +kernel
theorem dX1_leastHop_17 : decode cX1_leastHop 17 = .ok (.iload_n 2, 1) := by decide +kernel
theorem dX1_leastHop_18 : decode cX1_leastHop 18 = .ok (.invokevirtual 76, 3) := by decide +kernel
theorem dX1_leastHop_21 : decode cX1_leastHop 21 = .ok (.ifCond .eq 38, 3) := by decide +kernel
theorem dX1_leastHop_24 : decode cX1_leastHop 24 = .ok (.iload_n 3, 1) := by decide +kernel
theorem dX1_leastHop_25 : decode cX1_leastHop 25 = .ok (.iload_n 1, 1) := by decide +kernel
theorem dX1_leastHop_26 : decode cX1_leastHop 26 = .ok (.if_icmp .eq 27, 3) := by decide +kernel
theorem dX1_leastHop_29 : decode cX1_leastHop 29 = .ok (.aload_n 0, 1) := by decide +kernel
theorem dX1_leastHop_30 : decode cX1_leastHop 30 = .ok (.iload_n 1, 1) := by decide +kernel
theorem dX1_leastHop_31 : decode cX1_leastHop 31 = .ok (.iload_n 3, 1) := by decide +kernel
theorem dX1_leastHop_32 : decode cX1_leastHop 32 = .ok (.invokevirtual 63, 3) := by decide +kernel
theorem dX1_leastHop_35 : decode cX1_leastHop 35 = .ok (.aload_n 0, 1) := by decide +kernel
theorem dX1_leastHop_36 : decode cX1_leastHop 36 = .ok (.iload_n 3, 1) := by decide +kernel
theorem dX1_leastHop_37 : decode cX1_leastHop 37 = .ok (.iload_n 2, 1) := by decide +kernel
theorem dX1_leastHop_38 : decode cX1_leastHop 38 = .ok (.invokevirtual 73, 3) := by decide +kernel
theorem dX1_leastHop_41 : decode cX1_leastHop 41 = .ok (.iadd, 1) := by decide +kernel
theorem dX1_leastHop_42 : decode cX1_leastHop 42 = .ok (.aload_n 0, 1) := by decide +kernel
theorem dX1_leastHop_43 : decode cX1_leastHop 43 = .ok (.iload_n 1, 1) := by decide +kernel
theorem dX1_leastHop_44 : decode cX1_leastHop 44 = .ok (.iload_n 2, 1) := by decide +kernel
theorem dX1_leastHop_45 : decode cX1_leastHop 45 = .ok (.invokevirtual 73, 3) := by decide +kernel
theorem dX1_leastHop_48 : decode cX1_leastHop 48 = .ok (.if_icmp .ne 5, 3) := by decide +kernel
theorem dX1_leastHop_51 : decode cX1_leastHop 51 = .ok (.iload_n 3, 1) := by decide +kernel
theorem dX1_leastHop_52 : decode cX1_leastHop 52 = .ok (.ireturn, 1) := by decide +kernel
theorem dX1_leastHop_53 : decode cX1_leastHop 53 = .ok (.iinc 3 1, 3) := by decide +kernel
theorem dX1_leastHop_56 : decode cX1_leastHop 56 = .ok (.goto (-54), 3) := by decide +kernel
theorem dX1_leastHop_59 : decode cX1_leastHop 59 = .ok (.iload_n 2, 1) := by decide +kernel
theorem dX1_leastHop_60 : decode cX1_leastHop 60 = .ok (.ireturn, 1) := by decide +kernel
theorem dX2_init_0 : decode cX2_init 0 = .ok (.aload_n 0, 1) := by decide +kernel
theorem dX2_init_1 : decode cX2_init 1 = .ok (.invokespecial 3, 3) := by decide +kernel
theorem dX2_init_4 : decode cX2_init 4 = .ok (.aload_n 0, 1) := by decide +kernel
theorem dX2_init_5 : decode cX2_init 5 = .ok (.iconst 4, 1) := by decide +kernel
theorem dX2_init_6 : decode cX2_init 6 = .ok (.newarray .int, 2) := by decide +kernel
theorem dX2_init_8 : decode cX2_init 8 = .ok (.putfield 9, 3) := by decide +kernel
theorem dX2_init_11 : decode cX2_init 11 = .ok (.aload_n 0, 1) := by decide +kernel
theorem dX2_init_12 : decode cX2_init 12 = .ok (.bipush 80, 2) := by decide +kernel
theorem dX2_init_14 : decode cX2_init 14 = .ok (.newarray .int, 2) := by decide +kernel
theorem dX2_init_16 : decode cX2_init 16 = .ok (.putfield 15, 3) := by decide +kernel
theorem dX2_init_19 : decode cX2_init 19 = .ok (.aload_n 0, 1) := by decide +kernel
theorem dX2_init_20 : decode cX2_init 20 = .ok (.iload_n 1, 1) := by decide +kernel
theorem dX2_init_21 : decode cX2_init 21 = .ok (.putfield 18, 3) := by decide +kernel
theorem dX2_init_24 : decode cX2_init 24 = .ok (.aload_n 0, 1) := by decide +kernel
theorem dX2_init_25 : decode cX2_init 25 = .ok (.iload_n 1, 1) := by decide +kernel
theorem dX2_init_26 : decode cX2_init 26 = .ok (.bipush 11, 2) := by decide +kernel
theorem dX2_init_28 : decode cX2_init 28 = .ok (.imul, 1) := by decide +kernel
theorem dX2_init_29 : decode cX2_init 29 = .ok (.newarray .int, 2) := by decide +kernel
theorem dX2_init_31 : decode cX2_init 31 = .ok (.putfield 22, 3) := by decide +kernel
theorem dX2_init_34 : decode cX2_init 34 = .ok (.return_, 1) := by decide +kernel
theorem dX2_entry_0 : decode cX2_entry 0 = .ok (.aload_n 0, 1) := by decide +kernel
theorem dX2_entry_1 : decode cX2_entry 1 = .ok (.getfield 22, 3) := by decide +kernel
theorem dX2_entry_4 : decode cX2_entry 4 = .ok (.iload_n 1, 1) := by decide +kernel
theorem dX2_entry_5 : decode cX2_entry 5 = .ok (.bipush 11, 2) := by decide +kernel
theorem dX2_entry_7 : decode cX2_entry 7 = .ok (.imul, 1) := by decide +kernel
theorem dX2_entry_8 : decode cX2_entry 8 = .ok (.iload_n 2, 1) := by decide +kernel
theorem dX2_entry_9 : decode cX2_entry 9 = .ok (.iadd, 1) := by decide +kernel
theorem dX2_entry_10 : decode cX2_entry 10 = .ok (.iaload, 1) := by decide +kernel
theorem dX2_entry_11 : decode cX2_entry 11 = .ok (.ireturn, 1) := by decide +kernel
theorem dX2_note_0 : decode cX2_note 0 = .ok (.aload_n 0, 1) := by decide +kernel
theorem dX2_note_1 : decode cX2_note 1 = .ok (.getfield 25, 3) := by decide +kernel
theorem dX2_note_4 : decode cX2_note 4 = .ok (.aload_n 0, 1) := by decide +kernel
theorem dX2_note_5 : decode cX2_note 5 = .ok (.getfield 18, 3) := by decide +kernel
theorem dX2_note_8 : decode cX2_note 8 = .ok (.if_icmp .ne 4, 3) := by decide +kernel
theorem dX2_note_11 : decode cX2_note 11 = .ok (.return_, 1) := by decide +kernel
theorem dX2_note_12 : decode cX2_note 12 = .ok (.aload_n 0, 1) := by decide +kernel
theorem dX2_note_13 : decode cX2_note 13 = .ok (.getfield 25, 3) := by decide +kernel
theorem dX2_note_16 : decode cX2_note 16 = .ok (.bipush 11, 2) := by decide +kernel
theorem dX2_note_18 : decode cX2_note 18 = .ok (.imul, 1) := by decide +kernel
theorem dX2_note_19 : decode cX2_note 19 = .ok (.istore_n 3, 1) := by decide +kernel
theorem dX2_note_20 : decode cX2_note 20 = .ok (.aload_n 0, 1) := by decide +kernel
theorem dX2_note_21 : decode cX2_note 21 = .ok (.getfield 22, 3) := by decide +kernel
theorem dX2_note_24 : decode cX2_note 24 = .ok (.iload_n 3, 1) := by decide +kernel
theorem dX2_note_25 : decode cX2_note 25 = .ok (.iconst 0, 1) := by decide +kernel
theorem dX2_note_26 : decode cX2_note 26 = .ok (.iadd, 1) := by decide +kernel
theorem dX2_note_27 : decode cX2_note 27 = .ok (.iload_n 1, 1) := by decide +kernel
theorem dX2_note_28 : decode cX2_note 28 = .ok (.iastore, 1) := by decide +kernel
theorem dX2_note_29 : decode cX2_note 29 = .ok (.aload_n 0, 1) := by decide +kernel
theorem dX2_note_30 : decode cX2_note 30 = .ok (.getfield 22, 3) := by decide +kernel
theorem dX2_note_33 : decode cX2_note 33 = .ok (.iload_n 3, 1) := by decide +kernel
theorem dX2_note_34 : decode cX2_note 34 = .ok (.iconst 1, 1) := by decide +kernel
theorem dX2_note_35 : decode cX2_note 35 = .ok (.iadd, 1) := by decide +kernel
theorem dX2_note_36 : decode cX2_note 36 = .ok (.aload_n 2, 1) := by decide +kernel
theorem dX2_note_37 : decode cX2_note 37 = .ok (.getfield 28, 3) := by decide +kernel
theorem dX2_note_40 : decode cX2_note 40 = .ok (.iastore, 1) := by decide +kernel
theorem dX2_note_41 : decode cX2_note 41 = .ok (.aload_n 0, 1) := by decide +kernel
theorem dX2_note_42 : decode cX2_note 42 = .ok (.getfield 22, 3) := by decide +kernel
theorem dX2_note_45 : decode cX2_note 45 = .ok (.iload_n 3, 1) := by decide +kernel
theorem dX2_note_46 : decode cX2_note 46 = .ok (.iconst 2, 1) := by decide +kernel
theorem dX2_note_47 : decode cX2_note 47 = .ok (.iadd, 1) := by decide +kernel
theorem dX2_note_48 : decode cX2_note 48 = .ok (.aload_n 2, 1) := by decide +kernel
theorem dX2_note_49 : decode cX2_note 49 = .ok (.getfield 33, 3) := by decide +kernel
theorem dX2_note_52 : decode cX2_note 52 = .ok (.iastore, 1) := by decide +kernel
theorem dX2_note_53 : decode cX2_note 53 = .ok (.aload_n 0, 1) := by decide +kernel
theorem dX2_note_54 : decode cX2_note 54 = .ok (.getfield 22, 3) := by decide +kernel
theorem dX2_note_57 : decode cX2_note 57 = .ok (.iload_n 3, 1) := by decide +kernel
theorem dX2_note_58 : decode cX2_note 58 = .ok (.iconst 3, 1) := by decide +kernel
theorem dX2_note_59 : decode cX2_note 59 = .ok (.iadd, 1) := by decide +kernel
theorem dX2_note_60 : decode cX2_note 60 = .ok (.aload_n 2, 1) := by decide +kernel
theorem dX2_note_61 : decode cX2_note 61 = .ok (.getfield 36, 3) := by decide +kernel
theorem dX2_note_64 : decode cX2_note 64 = .ok (.iastore, 1) := by decide +kernel
theorem dX2_note_65 : decode cX2_note 65 = .ok (.aload_n 0, 1) := by decide +kernel
theorem dX2_note_66 : decode cX2_note 66 = .ok (.getfield 22, 3) := by decide +kernel
theorem dX2_note_69 : decode cX2_note 69 = .ok (.iload_n 3, 1) := by decide +kernel
theorem dX2_note_70 : decode cX2_note 70 = .ok (.iconst 4, 1) := by decide +kernel
theorem dX2_note_71 : decode cX2_note 71 = .ok (.iadd, 1) := by decide +kernel
theorem dX2_note_72 : decode cX2_note 72 = .ok (.aload_n 2, 1) := by decide +kernel
theorem dX2_note_73 : decode cX2_note 73 = .ok (.getfield 39, 3) := by decide +kernel
theorem dX2_note_76 : decode cX2_note 76 = .ok (.iastore, 1) := by decide +kernel
theorem dX2_note_77 : decode cX2_note 77 = .ok (.aload_n 0, 1) := by decide +kernel
theorem dX2_note_78 : decode cX2_note 78 = .ok (.getfield 22, 3) := by decide +kernel
theorem dX2_note_81 : decode cX2_note 81 = .ok (.iload_n 3, 1) := by decide +kernel
theorem dX2_note_82 : decode cX2_note 82 = .ok (.iconst 5, 1) := by decide +kernel
theorem dX2_note_83 : decode cX2_note 83 = .ok (.iadd, 1) := by decide +kernel
theorem dX2_note_84 : decode cX2_note 84 = .ok (.aload_n 2, 1) := by decide +kernel
theorem dX2_note_85 : decode cX2_note 85 = .ok (.getfield 42, 3) := by decide +kernel
theorem dX2_note_88 : decode cX2_note 88 = .ok (.ifCond .eq 7, 3) := by decide +kernel
theorem dX2_note_91 : decode cX2_note 91 = .ok (.iconst 1, 1) := by decide +kernel
theorem dX2_note_92 : decode cX2_note 92 = .ok (.goto 4, 3) := by decide +kernel
theorem dX2_note_95 : decode cX2_note 95 = .ok (.iconst 0, 1) := by decide +kernel
theorem dX2_note_96 : decode cX2_note 96 = .ok (.iastore, 1) := by decide +kernel
theorem dX2_note_97 : decode cX2_note 97 = .ok (.aload_n 0, 1) := by decide +kernel
theorem dX2_note_98 : decode cX2_note 98 = .ok (.getfield 22, 3) := by decide +kernel
theorem dX2_note_101 : decode cX2_note 101 = .ok (.iload_n 3, 1) := by decide +kernel
theorem dX2_note_102 : decode cX2_note 102 = .ok (.bipush 6, 2) := by decide +kernel
theorem dX2_note_104 : decode cX2_note 104 = .ok (.iadd, 1) := by decide +kernel
theorem dX2_note_105 : decode cX2_note 105 = .ok (.aload_n 2, 1) := by decide +kernel
theorem dX2_note_106 : decode cX2_note 106 = .ok (.getfield 46, 3) := by decide +kernel
theorem dX2_note_109 : decode cX2_note 109 = .ok (.iastore, 1) := by decide +kernel
theorem dX2_note_110 : decode cX2_note 110 = .ok (.aload_n 0, 1) := by decide +kernel
theorem dX2_note_111 : decode cX2_note 111 = .ok (.getfield 22, 3) := by decide +kernel
theorem dX2_note_114 : decode cX2_note 114 = .ok (.iload_n 3, 1) := by decide +kernel
theorem dX2_note_115 : decode cX2_note 115 = .ok (.bipush 7, 2) := by decide +kernel
theorem dX2_note_117 : decode cX2_note 117 = .ok (.iadd, 1) := by decide +kernel
theorem dX2_note_118 : decode cX2_note 118 = .ok (.aload_n 2, 1) := by decide +kernel
theorem dX2_note_119 : decode cX2_note 119 = .ok (.getfield 49, 3) := by decide +kernel
theorem dX2_note_122 : decode cX2_note 122 = .ok (.iastore, 1) := by decide +kernel
theorem dX2_note_123 : decode cX2_note 123 = .ok (.aload_n 0, 1) := by decide +kernel
theorem dX2_note_124 : decode cX2_note 124 = .ok (.getfield 22, 3) := by decide +kernel
theorem dX2_note_127 : decode cX2_note 127 = .ok (.iload_n 3, 1) := by decide +kernel
theorem dX2_note_128 : decode cX2_note 128 = .ok (.bipush 8, 2) := by decide +kernel
theorem dX2_note_130 : decode cX2_note 130 = .ok (.iadd, 1) := by decide +kernel
theorem dX2_note_131 : decode cX2_note 131 = .ok (.aload_n 2, 1) := by decide +kernel
theorem dX2_note_132 : decode cX2_note 132 = .ok (.getfield 52, 3) := by decide +kernel
theorem dX2_note_135 : decode cX2_note 135 = .ok (.ifCond .eq 7, 3) := by decide +kernel
theorem dX2_note_138 : decode cX2_note 138 = .ok (.iconst 1, 1) := by decide +kernel
theorem dX2_note_139 : decode cX2_note 139 = .ok (.goto 4, 3) := by decide +kernel
theorem dX2_note_142 : decode cX2_note 142 = .ok (.iconst 0, 1) := by decide +kernel
theorem dX2_note_143 : decode cX2_note 143 = .ok (.iastore, 1) := by decide +kernel
theorem dX2_note_144 : decode cX2_note 144 = .ok (.aload_n 0, 1) := by decide +kernel
theorem dX2_note_145 : decode cX2_note 145 = .ok (.getfield 22, 3) := by decide +kernel
theorem dX2_note_148 : decode cX2_note 148 = .ok (.iload_n 3, 1) := by decide +kernel
theorem dX2_note_149 : decode cX2_note 149 = .ok (.bipush 9, 2) := by decide +kernel
theorem dX2_note_151 : decode cX2_note 151 = .ok (.iadd, 1) := by decide +kernel
theorem dX2_note_152 : decode cX2_note 152 = .ok (.aload_n 2, 1) := by decide +kernel
theorem dX2_note_153 : decode cX2_note 153 = .ok (.getfield 55, 3) := by decide +kernel
theorem dX2_note_156 : decode cX2_note 156 = .ok (.ifCond .eq 7, 3) := by decide +kernel
theorem dX2_note_159 : decode cX2_note 159 = .ok (.iconst 1, 1) := by decide +kernel
theorem dX2_note_160 : decode cX2_note 160 = .ok (.goto 4, 3) := by decide +kernel
theorem dX2_note_163 : decode cX2_note 163 = .ok (.iconst 0, 1) := by decide +kernel
theorem dX2_note_164 : decode cX2_note 164 = .ok (.iastore, 1) := by decide +kernel
theorem dX2_note_165 : decode cX2_note 165 = .ok (.aload_n 0, 1) := by decide +kernel
theorem dX2_note_166 : decode cX2_note 166 = .ok (.getfield 22, 3) := by decide +kernel
theorem dX2_note_169 : decode cX2_note 169 = .ok (.iload_n 3, 1) := by decide +kernel
theorem dX2_note_170 : decode cX2_note 170 = .ok (.bipush 10, 2) := by decide +kernel
theorem dX2_note_172 : decode cX2_note 172 = .ok (.iadd, 1) := by decide +kernel
theorem dX2_note_173 : decode cX2_note 173 = .ok (.aload_n 2, 1) := by decide +kernel
theorem dX2_note_174 : decode cX2_note 174 = .ok (.getfield 58, 3) := by decide +kernel
theorem dX2_note_177 : decode cX2_note 177 = .ok (.iastore, 1) := by decide +kernel
theorem dX2_note_178 : decode cX2_note 178 = .ok (.aload_n 0, 1) := by decide +kernel
theorem dX2_note_179 : decode cX2_note 179 = .ok (.dup, 1) := by decide +kernel
theorem dX2_note_180 : decode cX2_note 180 = .ok (.getfield 25, 3) := by decide +kernel
theorem dX2_note_183 : decode cX2_note 183 = .ok (.iconst 1, 1) := by decide +kernel
theorem dX2_note_184 : decode cX2_note 184 = .ok (.iadd, 1) := by decide +kernel
theorem dX2_note_185 : decode cX2_note 185 = .ok (.putfield 25, 3) := by decide +kernel
theorem dX2_note_188 : decode cX2_note 188 = .ok (.return_, 1) := by decide +kernel
theorem dX2_costAboveNearest_0 : decode cX2_costAboveNearest 0 = .ok (.iconst 0, 1) := by decide +kernel
theorem dX2_costAboveNearest_1 : decode cX2_costAboveNearest 1 = .ok (.istore_n 2, 1) := by decide +kernel
theorem dX2_costAboveNearest_2 : decode cX2_costAboveNearest 2 = .ok (.iconst 0, 1) := by decide +kernel
theorem dX2_costAboveNearest_3 : decode cX2_costAboveNearest 3 = .ok (.istore_n 3, 1) := by decide +kernel
theorem dX2_costAboveNearest_4 : decode cX2_costAboveNearest 4 = .ok (.iload_n 3, 1) := by decide +kernel
theorem dX2_costAboveNearest_5 : decode cX2_costAboveNearest 5 = .ok (.aload_n 0, 1) := by decide +kernel
theorem dX2_costAboveNearest_6 : decode cX2_costAboveNearest 6 = .ok (.getfield 25, 3) := by decide +kernel
theorem dX2_costAboveNearest_9 : decode cX2_costAboveNearest 9 = .ok (.if_icmp .ge 31, 3) := by decide +kernel
theorem dX2_costAboveNearest_12 : decode cX2_costAboveNearest 12 = .ok (.aload_n 0, 1) := by decide +kernel
theorem dX2_costAboveNearest_13 : decode cX2_costAboveNearest 13 = .ok (.iload_n 3, 1) := by decide +kernel
theorem dX2_costAboveNearest_14 : decode cX2_costAboveNearest 14 = .ok (.iconst 3, 1) := by decide +kernel
theorem dX2_costAboveNearest_15 : decode cX2_costAboveNearest 15 = .ok (.invokevirtual 61, 3) := by decide +kernel
theorem dX2_costAboveNearest_18 : decode cX2_costAboveNearest 18 = .ok (.iload_n 1, 1) := by decide +kernel
theorem dX2_costAboveNearest_19 : decode cX2_costAboveNearest 19 = .ok (.if_icmp .ne 15, 3) := by decide +kernel
theorem dX2_costAboveNearest_22 : decode cX2_costAboveNearest 22 = .ok (.iload_n 2, 1) := by decide +kernel
theorem dX2_costAboveNearest_23 : decode cX2_costAboveNearest 23 = .ok (.aload_n 0, 1) := by decide +kernel
theorem dX2_costAboveNearest_24 : decode cX2_costAboveNearest 24 = .ok (.iload_n 3, 1) := by decide +kernel
theorem dX2_costAboveNearest_25 : decode cX2_costAboveNearest 25 = .ok (.bipush 7, 2) := by decide +kernel
theorem dX2_costAboveNearest_27 : decode cX2_costAboveNearest 27 = .ok (.invokevirtual 61, 3) := by decide +kernel
theorem dX2_costAboveNearest_30 : decode cX2_costAboveNearest 30 = .ok (.iconst 1, 1) := by decide +kernel
theorem dX2_costAboveNearest_31 : decode cX2_costAboveNearest 31 = .ok (.isub, 1) := by decide +kernel
theorem dX2_costAboveNearest_32 : decode cX2_costAboveNearest 32 = .ok (.iadd, 1) := by decide +kernel
theorem dX2_costAboveNearest_33 : decode cX2_costAboveNearest 33 = .ok (.istore_n 2, 1) := by decide +kernel
theorem dX2_costAboveNearest_34 : decode cX2_costAboveNearest 34 = .ok (.iinc 3 1, 3) := by decide +kernel
theorem dX2_costAboveNearest_37 : decode cX2_costAboveNearest 37 = .ok (.goto (-33), 3) := by decide +kernel
theorem dX2_costAboveNearest_40 : decode cX2_costAboveNearest 40 = .ok (.iload_n 2, 1) := by decide +kernel
theorem dX2_costAboveNearest_41 : decode cX2_costAboveNearest 41 = .ok (.ireturn, 1) := by decide +kernel
theorem dX2_leastSum_0 : decode cX2_leastSum 0 = .ok (.aload_n 0, 1) := by decide +kernel
theorem dX2_leastSum_1 : decode cX2_leastSum 1 = .ok (.getfield 9, 3) := by decide +kernel
theorem dX2_leastSum_4 : decode cX2_leastSum 4 = .ok (.iconst 0, 1) := by decide +kernel
theorem dX2_leastSum_5 : decode cX2_leastSum 5 = .ok (.invokestatic 65, 3) := by decide +kernel
theorem dX2_leastSum_8 : decode cX2_leastSum 8 = .ok (.iconst 0, 1) := by decide +kernel
theorem dX2_leastSum_9 : decode cX2_leastSum 9 = .ok (.istore 4, 2) := by decide +kernel
theorem dX2_leastSum_11 : decode cX2_leastSum 11 = .ok (.iload 4, 2) := by decide +kernel
theorem dX2_leastSum_13 : decode cX2_leastSum 13 = .ok (.aload_n 0, 1) := by decide +kernel
theorem dX2_leastSum_14 : decode cX2_leastSum 14 = .ok (.getfield 25, 3) := by decide +kernel
theorem dX2_leastSum_17 : decode cX2_leastSum 17 = .ok (.if_icmp .ge 33, 3) := by decide +kernel
theorem dX2_leastSum_20 : decode cX2_leastSum 20 = .ok (.aload_n 0, 1) := by decide +kernel
theorem dX2_leastSum_21 : decode cX2_leastSum 21 = .ok (.iload 4, 2) := by decide +kernel
theorem dX2_leastSum_23 : decode cX2_leastSum 23 = .ok (.iconst 3, 1) := by decide +kernel
theorem dX2_leastSum_24 : decode cX2_leastSum 24 = .ok (.invokevirtual 61, 3) := by decide +kernel
theorem dX2_leastSum_27 : decode cX2_leastSum 27 = .ok (.iload_n 1, 1) := by decide +kernel
theorem dX2_leastSum_28 : decode cX2_leastSum 28 = .ok (.if_icmp .ne 16, 3) := by decide +kernel
theorem dX2_leastSum_31 : decode cX2_leastSum 31 = .ok (.aload_n 0, 1) := by decide +kernel
theorem dX2_leastSum_32 : decode cX2_leastSum 32 = .ok (.aload_n 0, 1) := by decide +kernel
theorem dX2_leastSum_33 : decode cX2_leastSum 33 = .ok (.iload 4, 2) := by decide +kernel
theorem dX2_leastSum_35 : decode cX2_leastSum 35 = .ok (.iconst 2, 1) := by decide +kernel
theorem dX2_leastSum_36 : decode cX2_leastSum 36 = .ok (.invokevirtual 61, 3) := by decide +kernel
theorem dX2_leastSum_39 : decode cX2_leastSum 39 = .ok (.aload_n 2, 1) := by decide +kernel
theorem dX2_leastSum_40 : decode cX2_leastSum 40 = .ok (.iload_n 3, 1) := by decide +kernel
theorem dX2_leastSum_41 : decode cX2_leastSum 41 = .ok (.invokevirtual 71, 3) := by decide +kernel
theorem dX2_leastSum_44 : decode cX2_leastSum 44 = .ok (.iinc 4 1, 3) := by decide +kernel
theorem dX2_leastSum_47 : decode cX2_leastSum 47 = .ok (.goto (-36), 3) := by decide +kernel
theorem dX2_leastSum_50 : decode cX2_leastSum 50 = .ok (.aload_n 0, 1) := by decide +kernel
theorem dX2_leastSum_51 : decode cX2_leastSum 51 = .ok (.aload_n 2, 1) := by decide +kernel
theorem dX2_leastSum_52 : decode cX2_leastSum 52 = .ok (.getfield 75, 3) := by decide +kernel
theorem dX2_leastSum_55 : decode cX2_leastSum 55 = .ok (.invokevirtual 80, 3) := by decide +kernel
theorem dX2_leastSum_58 : decode cX2_leastSum 58 = .ok (.ireturn, 1) := by decide +kernel
theorem dX2_addAccess_0 : decode cX2_addAccess 0 = .ok (.aload_n 0, 1) := by decide +kernel
theorem dX2_addAccess_1 : decode cX2_addAccess 1 = .ok (.aload_n 2, 1) := by decide +kernel
theorem dX2_addAccess_2 : decode cX2_addAccess 2 = .ok (.getfield 75, 3) := by decide +kernel
theorem dX2_addAccess_5 : decode cX2_addAccess 5 = .ok (.invokevirtual 80, 3) := by decide +kernel
theorem dX2_addAccess_8 : decode cX2_addAccess 8 = .ok (.iload_n 3, 1) := by decide +kernel
theorem dX2_addAccess_9 : decode cX2_addAccess 9 = .ok (.iadd, 1) := by decide +kernel
theorem dX2_addAccess_10 : decode cX2_addAccess 10 = .ok (.istore 4, 2) := by decide +kernel
theorem dX2_addAccess_12 : decode cX2_addAccess 12 = .ok (.iconst 0, 1) := by decide +kernel
theorem dX2_addAccess_13 : decode cX2_addAccess 13 = .ok (.istore 5, 2) := by decide +kernel
theorem dX2_addAccess_15 : decode cX2_addAccess 15 = .ok (.iload 5, 2) := by decide +kernel
theorem dX2_addAccess_17 : decode cX2_addAccess 17 = .ok (.aload_n 2, 1) := by decide +kernel
theorem dX2_addAccess_18 : decode cX2_addAccess 18 = .ok (.getfield 75, 3) := by decide +kernel
theorem dX2_addAccess_21 : decode cX2_addAccess 21 = .ok (.if_icmp .ge 78, 3) := by decide +kernel
theorem dX2_addAccess_24 : decode cX2_addAccess 24 = .ok (.aload_n 0, 1) := by decide +kernel
theorem dX2_addAccess_25 : decode cX2_addAccess 25 = .ok (.getfield 9, 3) := by decide +kernel
theorem dX2_addAccess_28 : decode cX2_addAccess 28 = .ok (.iload 5, 2) := by decide +kernel
theorem dX2_addAccess_30 : decode cX2_addAccess 30 = .ok (.iaload, 1) := by decide +kernel
theorem dX2_addAccess_31 : decode cX2_addAccess 31 = .ok (.iload 4, 2) := by decide +kernel
theorem dX2_addAccess_33 : decode cX2_addAccess 33 = .ok (.invokestatic 84, 3) := by decide +kernel
theorem dX2_addAccess_36 : decode cX2_addAccess 36 = .ok (.istore 6, 2) := by decide +kernel
theorem dX2_addAccess_38 : decode cX2_addAccess 38 = .ok (.aload_n 2, 1) := by decide +kernel
theorem dX2_addAccess_39 : decode cX2_addAccess 39 = .ok (.iload_n 1, 1) := by decide +kernel
theorem dX2_addAccess_40 : decode cX2_addAccess 40 = .ok (.iload 5, 2) := by decide +kernel
theorem dX2_addAccess_42 : decode cX2_addAccess 42 = .ok (.invokevirtual 89, 3) := by decide +kernel
theorem dX2_addAccess_45 : decode cX2_addAccess 45 = .ok (.ifCond .eq 14, 3) := by decide +kernel
theorem dX2_addAccess_48 : decode cX2_addAccess 48 = .ok (.iload 6, 2) := by decide +kernel
theorem dX2_addAccess_50 : decode cX2_addAccess 50 = .ok (.ldc 93, 2) := by decide +kernel
theorem dX2_addAccess_52 : decode cX2_addAccess 52 = .ok (.if_icmp .ge 7, 3) := by decide +kernel
theorem dX2_addAccess_55 : decode cX2_addAccess 55 = .ok (.iconst 1, 1) := by decide +kernel
theorem dX2_addAccess_56 : decode cX2_addAccess 56 = .ok (.goto 4, 3) := by decide +kernel
theorem dX2_addAccess_59 : decode cX2_addAccess 59 = .ok (.iconst 0, 1) := by decide +kernel
theorem dX2_addAccess_60 : decode cX2_addAccess 60 = .ok (.istore 7, 2) := by decide +kernel
theorem dX2_addAccess_62 : decode cX2_addAccess 62 = .ok (.aload_n 0, 1) := by decide +kernel
theorem dX2_addAccess_63 : decode cX2_addAccess 63 = .ok (.getfield 9, 3) := by decide +kernel
theorem dX2_addAccess_66 : decode cX2_addAccess 66 = .ok (.iload 5, 2) := by decide +kernel
theorem dX2_addAccess_68 : decode cX2_addAccess 68 = .ok (.iload 7, 2) := by decide +kernel
theorem dX2_addAccess_70 : decode cX2_addAccess 70 = .ok (.ifCond .eq 20, 3) := by decide +kernel
theorem dX2_addAccess_73 : decode cX2_addAccess 73 = .ok (.iload 6, 2) := by decide +kernel
theorem dX2_addAccess_75 : decode cX2_addAccess 75 = .ok (.iconst 1, 1) := by decide +kernel
theorem dX2_addAccess_76 : decode cX2_addAccess 76 = .ok (.iadd, 1) := by decide +kernel
theorem dX2_addAccess_77 : decode cX2_addAccess 77 = .ok (.iconst 2, 1) := by decide +kernel
theorem dX2_addAccess_78 : decode cX2_addAccess 78 = .ok (.aload_n 2, 1) := by decide +kernel
theorem dX2_addAccess_79 : decode cX2_addAccess 79 = .ok (.iload_n 1, 1) := by decide +kernel
theorem dX2_addAccess_80 : decode cX2_addAccess 80 = .ok (.iload 5, 2) := by decide +kernel
theorem dX2_addAccess_82 : decode cX2_addAccess 82 = .ok (.invokevirtual 94, 3) := by decide +kernel
theorem dX2_addAccess_85 : decode cX2_addAccess 85 = .ok (.imul, 1) := by decide +kernel
theorem dX2_addAccess_86 : decode cX2_addAccess 86 = .ok (.iadd, 1) := by decide +kernel
theorem dX2_addAccess_87 : decode cX2_addAccess 87 = .ok (.goto 5, 3) := by decide +kernel
theorem dX2_addAccess_90 : decode cX2_addAccess 90 = .ok (.ldc 93, 2) := by decide +kernel
theorem dX2_addAccess_92 : decode cX2_addAccess 92 = .ok (.iastore, 1) := by decide +kernel
theorem dX2_addAccess_93 : decode cX2_addAccess 93 = .ok (.iinc 5 1, 3) := by decide +kernel
theorem dX2_addAccess_96 : decode cX2_addAccess 96 = .ok (.goto (-81), 3) := by decide +kernel
theorem dX2_addAccess_99 : decode cX2_addAccess 99 = .ok (.return_, 1) := by decide +kernel
theorem dX2_leastOf_0 : decode cX2_leastOf 0 = .ok (.ldc 93, 2) := by decide +kernel
theorem dX2_leastOf_2 : decode cX2_leastOf 2 = .ok (.istore_n 2, 1) := by decide +kernel
theorem dX2_leastOf_3 : decode cX2_leastOf 3 = .ok (.iconst 0, 1) := by decide +kernel
theorem dX2_leastOf_4 : decode cX2_leastOf 4 = .ok (.istore_n 3, 1) := by decide +kernel
theorem dX2_leastOf_5 : decode cX2_leastOf 5 = .ok (.iload_n 3, 1) := by decide +kernel
theorem dX2_leastOf_6 : decode cX2_leastOf 6 = .ok (.iload_n 1, 1) := by decide +kernel
theorem dX2_leastOf_7 : decode cX2_leastOf 7 = .ok (.if_icmp .ge 20, 3) := by decide +kernel
theorem dX2_leastOf_10 : decode cX2_leastOf 10 = .ok (.iload_n 2, 1) := by decide +kernel
theorem dX2_leastOf_11 : decode cX2_leastOf 11 = .ok (.aload_n 0, 1) := by decide +kernel
theorem dX2_leastOf_12 : decode cX2_leastOf 12 = .ok (.getfield 9, 3) := by decide +kernel
theorem dX2_leastOf_15 : decode cX2_leastOf 15 = .ok (.iload_n 3, 1) := by decide +kernel
theorem dX2_leastOf_16 : decode cX2_leastOf 16 = .ok (.iaload, 1) := by decide +kernel
theorem dX2_leastOf_17 : decode cX2_leastOf 17 = .ok (.invokestatic 84, 3) := by decide +kernel
theorem dX2_leastOf_20 : decode cX2_leastOf 20 = .ok (.istore_n 2, 1) := by decide +kernel
theorem dX2_leastOf_21 : decode cX2_leastOf 21 = .ok (.iinc 3 1, 3) := by decide +kernel
theorem dX2_leastOf_24 : decode cX2_leastOf 24 = .ok (.goto (-19), 3) := by decide +kernel
theorem dX2_leastOf_27 : decode cX2_leastOf 27 = .ok (.iload_n 2, 1) := by decide +kernel
theorem dX2_leastOf_28 : decode cX2_leastOf 28 = .ok (.ireturn, 1) := by decide +kernel
theorem dX2_endsAlike_0 : decode cX2_endsAlike 0 = .ok (.aload_n 0, 1) := by decide +kernel
theorem dX2_endsAlike_1 : decode cX2_endsAlike 1 = .ok (.invokevirtual 97, 3) := by decide +kernel
theorem dX2_endsAlike_4 : decode cX2_endsAlike 4 = .ok (.iconst 0, 1) := by decide +kernel
theorem dX2_endsAlike_5 : decode cX2_endsAlike 5 = .ok (.istore_n 3, 1) := by decide +kernel
theorem dX2_endsAlike_6 : decode cX2_endsAlike 6 = .ok (.iload_n 3, 1) := by decide +kernel
theorem dX2_endsAlike_7 : decode cX2_endsAlike 7 = .ok (.iload_n 2, 1) := by decide +kernel
theorem dX2_endsAlike_8 : decode cX2_endsAlike 8 = .ok (.if_icmp .ge 49, 3) := by decide +kernel
theorem dX2_endsAlike_11 : decode cX2_endsAlike 11 = .ok (.iconst 0, 1) := by decide +kernel
theorem dX2_endsAlike_12 : decode cX2_endsAlike 12 = .ok (.istore 4, 2) := by decide +kernel
theorem dX2_endsAlike_14 : decode cX2_endsAlike 14 = .ok (.iload 4, 2) := by decide +kernel
theorem dX2_endsAlike_16 : decode cX2_endsAlike 16 = .ok (.iconst 4, 1) := by decide +kernel
theorem dX2_endsAlike_17 : decode cX2_endsAlike 17 = .ok (.if_icmp .ge 34, 3) := by decide +kernel
theorem dX2_endsAlike_20 : decode cX2_endsAlike 20 = .ok (.aload_n 0, 1) := by decide +kernel
theorem dX2_endsAlike_21 : decode cX2_endsAlike 21 = .ok (.getfield 15, 3) := by decide +kernel
theorem dX2_endsAlike_24 : decode cX2_endsAlike 24 = .ok (.iload_n 3, 1) := by decide +kernel
theorem dX2_endsAlike_25 : decode cX2_endsAlike 25 = .ok (.iconst 4, 1) := by decide +kernel
theorem dX2_endsAlike_26 : decode cX2_endsAlike 26 = .ok (.imul, 1) := by decide +kernel
theorem dX2_endsAlike_27 : decode cX2_endsAlike 27 = .ok (.iload 4, 2) := by decide +kernel
theorem dX2_endsAlike_29 : decode cX2_endsAlike 29 = .ok (.iadd, 1) := by decide +kernel
theorem dX2_endsAlike_30 : decode cX2_endsAlike 30 = .ok (.iaload, 1) := by decide +kernel
theorem dX2_endsAlike_31 : decode cX2_endsAlike 31 = .ok (.aload_n 1, 1) := by decide +kernel
theorem dX2_endsAlike_32 : decode cX2_endsAlike 32 = .ok (.iload_n 3, 1) := by decide +kernel
theorem dX2_endsAlike_33 : decode cX2_endsAlike 33 = .ok (.aaload, 1) := by decide +kernel
theorem dX2_endsAlike_34 : decode cX2_endsAlike 34 = .ok (.getfield 100, 3) := by decide +kernel
theorem dX2_endsAlike_37 : decode cX2_endsAlike 37 = .ok (.iload 4, 2) := by decide +kernel
theorem dX2_endsAlike_39 : decode cX2_endsAlike 39 = .ok (.iaload, 1) := by decide +kernel
theorem dX2_endsAlike_40 : decode cX2_endsAlike 40 = .ok (.if_icmp .eq 5, 3) := by decide +kernel
theorem dX2_endsAlike_43 : decode cX2_endsAlike 43 = .ok (.iconst 0, 1) := by decide +kernel
theorem dX2_endsAlike_44 : decode cX2_endsAlike 44 = .ok (.ireturn, 1) := by decide +kernel
theorem dX2_endsAlike_45 : decode cX2_endsAlike 45 = .ok (.iinc 4 1, 3) := by decide +kernel
theorem dX2_endsAlike_48 : decode cX2_endsAlike 48 = .ok (.goto (-34), 3) := by decide +kernel
theorem dX2_endsAlike_51 : decode cX2_endsAlike 51 = .ok (.iinc 3 1, 3) := by decide +kernel
theorem dX2_endsAlike_54 : decode cX2_endsAlike 54 = .ok (.goto (-48), 3) := by decide +kernel
theorem dX2_endsAlike_57 : decode cX2_endsAlike 57 = .ok (.iconst 1, 1) := by decide +kernel
theorem dX2_endsAlike_58 : decode cX2_endsAlike 58 = .ok (.ireturn, 1) := by decide +kernel
theorem dX2_replay_0 : decode cX2_replay 0 = .ok (.aload_n 0, 1) := by decide +kernel
theorem dX2_replay_1 : decode cX2_replay 1 = .ok (.getfield 15, 3) := by decide +kernel
theorem dX2_replay_4 : decode cX2_replay 4 = .ok (.iconst 0, 1) := by decide +kernel
theorem dX2_replay_5 : decode cX2_replay 5 = .ok (.invokestatic 65, 3) := by decide +kernel
theorem dX2_replay_8 : decode cX2_replay 8 = .ok (.iconst 0, 1) := by decide +kernel
theorem dX2_replay_9 : decode cX2_replay 9 = .ok (.istore_n 1, 1) := by decide +kernel
theorem dX2_replay_10 : decode cX2_replay 10 = .ok (.iload_n 1, 1) := by decide +kernel
theorem dX2_replay_11 : decode cX2_replay 11 = .ok (.aload_n 0, 1) := by decide +kernel
theorem dX2_replay_12 : decode cX2_replay 12 = .ok (.getfield 25, 3) := by decide +kernel
theorem dX2_replay_15 : decode cX2_replay 15 = .ok (.if_icmp .ge 46, 3) := by decide +kernel
theorem dX2_replay_18 : decode cX2_replay 18 = .ok (.aload_n 0, 1) := by decide +kernel
theorem dX2_replay_19 : decode cX2_replay 19 = .ok (.iload_n 1, 1) := by decide +kernel
theorem dX2_replay_20 : decode cX2_replay 20 = .ok (.iconst 5, 1) := by decide +kernel
theorem dX2_replay_21 : decode cX2_replay 21 = .ok (.invokevirtual 61, 3) := by decide +kernel
theorem dX2_replay_24 : decode cX2_replay 24 = .ok (.iconst 1, 1) := by decide +kernel
theorem dX2_replay_25 : decode cX2_replay 25 = .ok (.if_icmp .ne 30, 3) := by decide +kernel
theorem dX2_replay_28 : decode cX2_replay 28 = .ok (.aload_n 0, 1) := by decide +kernel
theorem dX2_replay_29 : decode cX2_replay 29 = .ok (.getfield 15, 3) := by decide +kernel
theorem dX2_replay_32 : decode cX2_replay 32 = .ok (.aload_n 0, 1) := by decide +kernel
theorem dX2_replay_33 : decode cX2_replay 33 = .ok (.iload_n 1, 1) := by decide +kernel
theorem dX2_replay_34 : decode cX2_replay 34 = .ok (.iconst 3, 1) := by decide +kernel
theorem dX2_replay_35 : decode cX2_replay 35 = .ok (.invokevirtual 61, 3) := by decide +kernel
theorem dX2_replay_38 : decode cX2_replay 38 = .ok (.iconst 4, 1) := by decide +kernel
theorem dX2_replay_39 : decode cX2_replay 39 = .ok (.imul, 1) := by decide +kernel
theorem dX2_replay_40 : decode cX2_replay 40 = .ok (.aload_n 0, 1) := by decide +kernel
theorem dX2_replay_41 : decode cX2_replay 41 = .ok (.iload_n 1, 1) := by decide +kernel
theorem dX2_replay_42 : decode cX2_replay 42 = .ok (.iconst 4, 1) := by decide +kernel
theorem dX2_replay_43 : decode cX2_replay 43 = .ok (.invokevirtual 61, 3) := by decide +kernel
theorem dX2_replay_46 : decode cX2_replay 46 = .ok (.iadd, 1) := by decide +kernel
theorem dX2_replay_47 : decode cX2_replay 47 = .ok (.aload_n 0, 1) := by decide +kernel
theorem dX2_replay_48 : decode cX2_replay 48 = .ok (.iload_n 1, 1) := by decide +kernel
theorem dX2_replay_49 : decode cX2_replay 49 = .ok (.bipush 10, 2) := by decide +kernel
theorem dX2_replay_51 : decode cX2_replay 51 = .ok (.invokevirtual 61, 3) := by decide +kernel
theorem dX2_replay_54 : decode cX2_replay 54 = .ok (.iastore, 1) := by decide +kernel
theorem dX2_replay_55 : decode cX2_replay 55 = .ok (.iinc 1 1, 3) := by decide +kernel
theorem dX2_replay_58 : decode cX2_replay 58 = .ok (.goto (-48), 3) := by decide +kernel
theorem dX2_replay_61 : decode cX2_replay 61 = .ok (.return_, 1) := by decide +kernel
theorem dX4_init_0 : decode cX4_init 0 = .ok (.aload_n 0, 1) := by decide +kernel
theorem dX4_init_1 : decode cX4_init 1 = .ok (.invokespecial 3, 3) := by decide +kernel
theorem dX4_init_4 : decode cX4_init 4 = .ok (.aload_n 0, 1) := by decide +kernel
theorem dX4_init_5 : decode cX4_init 5 = .ok (.iconst 4, 1) := by decide +kernel
theorem dX4_init_6 : decode cX4_init 6 = .ok (.newarray .int, 2) := by decide +kernel
theorem dX4_init_8 : decode cX4_init 8 = .ok (.putfield 9, 3) := by decide +kernel
theorem dX4_init_11 : decode cX4_init 11 = .ok (.aload_n 0, 1) := by decide +kernel
theorem dX4_init_12 : decode cX4_init 12 = .ok (.iconst 4, 1) := by decide +kernel
theorem dX4_init_13 : decode cX4_init 13 = .ok (.newarray .int, 2) := by decide +kernel
theorem dX4_init_15 : decode cX4_init 15 = .ok (.putfield 15, 3) := by decide +kernel
theorem dX4_init_18 : decode cX4_init 18 = .ok (.aload_n 0, 1) := by decide +kernel
theorem dX4_init_19 : decode cX4_init 19 = .ok (.iconst (-1), 1) := by decide +kernel
theorem dX4_init_20 : decode cX4_init 20 = .ok (.putfield 18, 3) := by decide +kernel
theorem dX4_init_23 : decode cX4_init 23 = .ok (.return_, 1) := by decide +kernel
theorem dX4_begin_0 : decode cX4_begin 0 = .ok (.aload_n 0, 1) := by decide +kernel
theorem dX4_begin_1 : decode cX4_begin 1 = .ok (.getfield 9, 3) := by decide +kernel
theorem dX4_begin_4 : decode cX4_begin 4 = .ok (.iconst 0, 1) := by decide +kernel
theorem dX4_begin_5 : decode cX4_begin 5 = .ok (.invokestatic 22, 3) := by decide +kernel
theorem dX4_begin_8 : decode cX4_begin 8 = .ok (.aload_n 0, 1) := by decide +kernel
theorem dX4_begin_9 : decode cX4_begin 9 = .ok (.iload_n 1, 1) := by decide +kernel
theorem dX4_begin_10 : decode cX4_begin 10 = .ok (.putfield 28, 3) := by decide +kernel
theorem dX4_begin_13 : decode cX4_begin 13 = .ok (.aload_n 0, 1) := by decide +kernel
theorem dX4_begin_14 : decode cX4_begin 14 = .ok (.iconst (-1), 1) := by decide +kernel
theorem dX4_begin_15 : decode cX4_begin 15 = .ok (.putfield 18, 3) := by decide +kernel
theorem dX4_begin_18 : decode cX4_begin 18 = .ok (.aload_n 0, 1) := by decide +kernel
theorem dX4_begin_19 : decode cX4_begin 19 = .ok (.iconst 0, 1) := by decide +kernel
theorem dX4_begin_20 : decode cX4_begin 20 = .ok (.putfield 31, 3) := by decide +kernel
theorem dX4_begin_23 : decode cX4_begin 23 = .ok (.aload_n 0, 1) := by decide +kernel
theorem dX4_begin_24 : decode cX4_begin 24 = .ok (.iconst 0, 1) := by decide +kernel
theorem dX4_begin_25 : decode cX4_begin 25 = .ok (.putfield 34, 3) := by decide +kernel
theorem dX4_begin_28 : decode cX4_begin 28 = .ok (.aload_n 0, 1) := by decide +kernel
theorem dX4_begin_29 : decode cX4_begin 29 = .ok (.iconst 0, 1) := by decide +kernel
theorem dX4_begin_30 : decode cX4_begin 30 = .ok (.putfield 37, 3) := by decide +kernel
theorem dX4_begin_33 : decode cX4_begin 33 = .ok (.aload_n 0, 1) := by decide +kernel
theorem dX4_begin_34 : decode cX4_begin 34 = .ok (.iconst 0, 1) := by decide +kernel
theorem dX4_begin_35 : decode cX4_begin 35 = .ok (.putfield 40, 3) := by decide +kernel
theorem dX4_begin_38 : decode cX4_begin 38 = .ok (.aload_n 0, 1) := by decide +kernel
theorem dX4_begin_39 : decode cX4_begin 39 = .ok (.iconst 0, 1) := by decide +kernel
theorem dX4_begin_40 : decode cX4_begin 40 = .ok (.putfield 43, 3) := by decide +kernel
theorem dX4_begin_43 : decode cX4_begin 43 = .ok (.return_, 1) := by decide +kernel
theorem dX4_hasCopyOn_0 : decode cX4_hasCopyOn 0 = .ok (.aload_n 0, 1) := by decide +kernel
theorem dX4_hasCopyOn_1 : decode cX4_hasCopyOn 1 = .ok (.getfield 31, 3) := by decide +kernel
theorem dX4_hasCopyOn_4 : decode cX4_hasCopyOn 4 = .ok (.iconst 1, 1) := by decide +kernel
theorem dX4_hasCopyOn_5 : decode cX4_hasCopyOn 5 = .ok (.iload_n 1, 1) := by decide +kernel
theorem dX4_hasCopyOn_6 : decode cX4_hasCopyOn 6 = .ok (.ishl, 1) := by decide +kernel
theorem dX4_hasCopyOn_7 : decode cX4_hasCopyOn 7 = .ok (.iand, 1) := by decide +kernel
theorem dX4_hasCopyOn_8 : decode cX4_hasCopyOn 8 = .ok (.ifCond .eq 7, 3) := by decide +kernel
theorem dX4_hasCopyOn_11 : decode cX4_hasCopyOn 11 = .ok (.iconst 1, 1) := by decide +kernel
theorem dX4_hasCopyOn_12 : decode cX4_hasCopyOn 12 = .ok (.goto 4, 3) := by decide +kernel
theorem dX4_hasCopyOn_15 : decode cX4_hasCopyOn 15 = .ok (.iconst 0, 1) := by decide +kernel
theorem dX4_hasCopyOn_16 : decode cX4_hasCopyOn 16 = .ok (.ireturn, 1) := by decide +kernel
theorem dX4_whereFor_0 : decode cX4_whereFor 0 = .ok (.aload_n 0, 1) := by decide +kernel
theorem dX4_whereFor_1 : decode cX4_whereFor 1 = .ok (.getfield 28, 3) := by decide +kernel
theorem dX4_whereFor_4 : decode cX4_whereFor 4 = .ok (.iconst 2, 1) := by decide +kernel
theorem dX4_whereFor_5 : decode cX4_whereFor 5 = .ok (.if_icmp .ne 12, 3) := by decide +kernel
theorem dX4_whereFor_8 : decode cX4_whereFor 8 = .ok (.iload_n 2, 1) := by decide +kernel
theorem dX4_whereFor_9 : decode cX4_whereFor 9 = .ok (.aload_n 0, 1) := by decide +kernel
theorem dX4_whereFor_10 : decode cX4_whereFor 10 = .ok (.getfield 18, 3) := by decide +kernel
theorem dX4_whereFor_13 : decode cX4_whereFor 13 = .ok (.iadd, 1) := by decide +kernel
theorem dX4_whereFor_14 : decode cX4_whereFor 14 = .ok (.iload_n 3, 1) := by decide +kernel
theorem dX4_whereFor_15 : decode cX4_whereFor 15 = .ok (.irem, 1) := by decide +kernel
theorem dX4_whereFor_16 : decode cX4_whereFor 16 = .ok (.ireturn, 1) := by decide +kernel
theorem dX4_whereFor_17 : decode cX4_whereFor 17 = .ok (.aload_n 0, 1) := by decide +kernel
theorem dX4_whereFor_18 : decode cX4_whereFor 18 = .ok (.iload_n 1, 1) := by decide +kernel
theorem dX4_whereFor_19 : decode cX4_whereFor 19 = .ok (.invokevirtual 47, 3) := by decide +kernel
theorem dX4_whereFor_22 : decode cX4_whereFor 22 = .ok (.ifCond .eq 7, 3) := by decide +kernel
theorem dX4_whereFor_25 : decode cX4_whereFor 25 = .ok (.iload_n 1, 1) := by decide +kernel
theorem dX4_whereFor_26 : decode cX4_whereFor 26 = .ok (.goto 7, 3) := by decide +kernel
theorem dX4_whereFor_29 : decode cX4_whereFor 29 = .ok (.aload_n 0, 1) := by decide +kernel
theorem dX4_whereFor_30 : decode cX4_whereFor 30 = .ok (.getfield 18, 3) := by decide +kernel
theorem dX4_whereFor_33 : decode cX4_whereFor 33 = .ok (.ireturn, 1) := by decide +kernel
theorem dX4_noteFault_0 : decode cX4_noteFault 0 = .ok (.iconst 3, 1) := by decide +kernel
theorem dX4_noteFault_1 : decode cX4_noteFault 1 = .ok (.istore_n 2, 1) := by decide +kernel
theorem dX4_noteFault_2 : decode cX4_noteFault 2 = .ok (.iload_n 2, 1) := by decide +kernel
theorem dX4_noteFault_3 : decode cX4_noteFault 3 = .ok (.ifCond .le 23, 3) := by decide +kernel
theorem dX4_noteFault_6 : decode cX4_noteFault 6 = .ok (.aload_n 0, 1) := by decide +kernel
theorem dX4_noteFault_7 : decode cX4_noteFault 7 = .ok (.getfield 15, 3) := by decide +kernel
theorem dX4_noteFault_10 : decode cX4_noteFault 10 = .ok (.iload_n 2, 1) := by decide +kernel
theorem dX4_noteFault_11 : decode cX4_noteFault 11 = .ok (.aload_n 0, 1) := by decide +kernel
theorem dX4_noteFault_12 : decode cX4_noteFault 12 = .ok (.getfield 15, 3) := by decide +kernel
theorem dX4_noteFault_15 : decode cX4_noteFault 15 = .ok (.iload_n 2, 1) := by decide +kernel
theorem dX4_noteFault_16 : decode cX4_noteFault 16 = .ok (.iconst 1, 1) := by decide +kernel
theorem dX4_noteFault_17 : decode cX4_noteFault 17 = .ok (.isub, 1) := by decide +kernel
theorem dX4_noteFault_18 : decode cX4_noteFault 18 = .ok (.iaload, 1) := by decide +kernel
theorem dX4_noteFault_19 : decode cX4_noteFault 19 = .ok (.iastore, 1) := by decide +kernel
theorem dX4_noteFault_20 : decode cX4_noteFault 20 = .ok (.iinc 2 (-1), 3) := by decide +kernel
theorem dX4_noteFault_23 : decode cX4_noteFault 23 = .ok (.goto (-21), 3) := by decide +kernel
theorem dX4_noteFault_26 : decode cX4_noteFault 26 = .ok (.aload_n 0, 1) := by decide +kernel
theorem dX4_noteFault_27 : decode cX4_noteFault 27 = .ok (.getfield 15, 3) := by decide +kernel
theorem dX4_noteFault_30 : decode cX4_noteFault 30 = .ok (.iconst 0, 1) := by decide +kernel
theorem dX4_noteFault_31 : decode cX4_noteFault 31 = .ok (.iload_n 1, 1) := by decide +kernel
theorem dX4_noteFault_32 : decode cX4_noteFault 32 = .ok (.iastore, 1) := by decide +kernel
theorem dX4_noteFault_33 : decode cX4_noteFault 33 = .ok (.aload_n 0, 1) := by decide +kernel
theorem dX4_noteFault_34 : decode cX4_noteFault 34 = .ok (.aload_n 0, 1) := by decide +kernel
theorem dX4_noteFault_35 : decode cX4_noteFault 35 = .ok (.getfield 34, 3) := by decide +kernel
theorem dX4_noteFault_38 : decode cX4_noteFault 38 = .ok (.iconst 1, 1) := by decide +kernel
theorem dX4_noteFault_39 : decode cX4_noteFault 39 = .ok (.iadd, 1) := by decide +kernel
theorem dX4_noteFault_40 : decode cX4_noteFault 40 = .ok (.iconst 4, 1) := by decide +kernel
theorem dX4_noteFault_41 : decode cX4_noteFault 41 = .ok (.invokestatic 51, 3) := by decide +kernel
theorem dX4_noteFault_44 : decode cX4_noteFault 44 = .ok (.putfield 34, 3) := by decide +kernel
theorem dX4_noteFault_47 : decode cX4_noteFault 47 = .ok (.return_, 1) := by decide +kernel
theorem dX4_wanted_0 : decode cX4_wanted 0 = .ok (.aload_n 0, 1) := by decide +kernel
theorem dX4_wanted_1 : decode cX4_wanted 1 = .ok (.getfield 18, 3) := by decide +kernel
theorem dX4_wanted_4 : decode cX4_wanted 4 = .ok (.istore_n 1, 1) := by decide +kernel
theorem dX4_wanted_5 : decode cX4_wanted 5 = .ok (.iconst 0, 1) := by decide +kernel
theorem dX4_wanted_6 : decode cX4_wanted 6 = .ok (.istore_n 2, 1) := by decide +kernel
theorem dX4_wanted_7 : decode cX4_wanted 7 = .ok (.iconst 0, 1) := by decide +kernel
theorem dX4_wanted_8 : decode cX4_wanted 8 = .ok (.istore_n 3, 1) := by decide +kernel
theorem dX4_wanted_9 : decode cX4_wanted 9 = .ok (.iload_n 3, 1) := by decide +kernel
theorem dX4_wanted_10 : decode cX4_wanted 10 = .ok (.iconst 4, 1) := by decide +kernel
theorem dX4_wanted_11 : decode cX4_wanted 11 = .ok (.if_icmp .ge 27, 3) := by decide +kernel
theorem dX4_wanted_14 : decode cX4_wanted 14 = .ok (.aload_n 0, 1) := by decide +kernel
theorem dX4_wanted_15 : decode cX4_wanted 15 = .ok (.iload_n 3, 1) := by decide +kernel
theorem dX4_wanted_16 : decode cX4_wanted 16 = .ok (.invokevirtual 57, 3) := by decide +kernel
theorem dX4_wanted_19 : decode cX4_wanted 19 = .ok (.istore 4, 2) := by decide +kernel
theorem dX4_wanted_21 : decode cX4_wanted 21 = .ok (.iload 4, 2) := by decide +kernel
theorem dX4_wanted_23 : decode cX4_wanted 23 = .ok (.iload_n 2, 1) := by decide +kernel
theorem dX4_wanted_24 : decode cX4_wanted 24 = .ok (.if_icmp .le 8, 3) := by decide +kernel
theorem dX4_wanted_27 : decode cX4_wanted 27 = .ok (.iload 4, 2) := by decide +kernel
theorem dX4_wanted_29 : decode cX4_wanted 29 = .ok (.istore_n 2, 1) := by decide +kernel
theorem dX4_wanted_30 : decode cX4_wanted 30 = .ok (.iload_n 3, 1) := by decide +kernel
theorem dX4_wanted_31 : decode cX4_wanted 31 = .ok (.istore_n 1, 1) := by decide +kernel
theorem dX4_wanted_32 : decode cX4_wanted 32 = .ok (.iinc 3 1, 3) := by decide +kernel
theorem dX4_wanted_35 : decode cX4_wanted 35 = .ok (.goto (-26), 3) := by decide +kernel
theorem dX4_wanted_38 : decode cX4_wanted 38 = .ok (.iload_n 1, 1) := by decide +kernel
theorem dX4_wanted_39 : decode cX4_wanted 39 = .ok (.ireturn, 1) := by decide +kernel
theorem dX4_faultsOf_0 : decode cX4_faultsOf 0 = .ok (.iconst 0, 1) := by decide +kernel
theorem dX4_faultsOf_1 : decode cX4_faultsOf 1 = .ok (.istore_n 2, 1) := by decide +kernel
theorem dX4_faultsOf_2 : decode cX4_faultsOf 2 = .ok (.iconst 0, 1) := by decide +kernel
theorem dX4_faultsOf_3 : decode cX4_faultsOf 3 = .ok (.istore_n 3, 1) := by decide +kernel
theorem dX4_faultsOf_4 : decode cX4_faultsOf 4 = .ok (.iload_n 3, 1) := by decide +kernel
theorem dX4_faultsOf_5 : decode cX4_faultsOf 5 = .ok (.aload_n 0, 1) := by decide +kernel
theorem dX4_faultsOf_6 : decode cX4_faultsOf 6 = .ok (.getfield 34, 3) := by decide +kernel
theorem dX4_faultsOf_9 : decode cX4_faultsOf 9 = .ok (.if_icmp .ge 22, 3) := by decide +kernel
theorem dX4_faultsOf_12 : decode cX4_faultsOf 12 = .ok (.aload_n 0, 1) := by decide +kernel
theorem dX4_faultsOf_13 : decode cX4_faultsOf 13 = .ok (.getfield 15, 3) := by decide +kernel
theorem dX4_faultsOf_16 : decode cX4_faultsOf 16 = .ok (.iload_n 3, 1) := by decide +kernel
theorem dX4_faultsOf_17 : decode cX4_faultsOf 17 = .ok (.iaload, 1) := by decide +kernel
theorem dX4_faultsOf_18 : decode cX4_faultsOf 18 = .ok (.iload_n 1, 1) := by decide +kernel
theorem dX4_faultsOf_19 : decode cX4_faultsOf 19 = .ok (.if_icmp .ne 6, 3) := by decide +kernel
theorem dX4_faultsOf_22 : decode cX4_faultsOf 22 = .ok (.iinc 2 1, 3) := by decide +kernel
theorem dX4_faultsOf_25 : decode cX4_faultsOf 25 = .ok (.iinc 3 1, 3) := by decide +kernel
theorem dX4_faultsOf_28 : decode cX4_faultsOf 28 = .ok (.goto (-24), 3) := by decide +kernel
theorem dX4_faultsOf_31 : decode cX4_faultsOf 31 = .ok (.iload_n 2, 1) := by decide +kernel
theorem dX4_faultsOf_32 : decode cX4_faultsOf 32 = .ok (.ireturn, 1) := by decide +kernel
theorem dX4_savingAt_0 : decode cX4_savingAt 0 = .ok (.iconst 0, 1) := by decide +kernel
theorem dX4_savingAt_1 : decode cX4_savingAt 1 = .ok (.istore_n 3, 1) := by decide +kernel
theorem dX4_savingAt_2 : decode cX4_savingAt 2 = .ok (.iconst 0, 1) := by decide +kernel
theorem dX4_savingAt_3 : decode cX4_savingAt 3 = .ok (.istore 4, 2) := by decide +kernel
theorem dX4_savingAt_5 : decode cX4_savingAt 5 = .ok (.iload 4, 2) := by decide +kernel
theorem dX4_savingAt_7 : decode cX4_savingAt 7 = .ok (.aload_n 0, 1) := by decide +kernel
theorem dX4_savingAt_8 : decode cX4_savingAt 8 = .ok (.getfield 34, 3) := by decide +kernel
theorem dX4_savingAt_11 : decode cX4_savingAt 11 = .ok (.if_icmp .ge 75, 3) := by decide +kernel
theorem dX4_savingAt_14 : decode cX4_savingAt 14 = .ok (.aload_n 2, 1) := by decide +kernel
theorem dX4_savingAt_15 : decode cX4_savingAt 15 = .ok (.aload_n 0, 1) := by decide +kernel
theorem dX4_savingAt_16 : decode cX4_savingAt 16 = .ok (.getfield 15, 3) := by decide +kernel
theorem dX4_savingAt_19 : decode cX4_savingAt 19 = .ok (.iload 4, 2) := by decide +kernel
theorem dX4_savingAt_21 : decode cX4_savingAt 21 = .ok (.iaload, 1) := by decide +kernel
theorem dX4_savingAt_22 : decode cX4_savingAt 22 = .ok (.aload_n 0, 1) := by decide +kernel
theorem dX4_savingAt_23 : decode cX4_savingAt 23 = .ok (.getfield 18, 3) := by decide +kernel
theorem dX4_savingAt_26 : decode cX4_savingAt 26 = .ok (.invokevirtual 61, 3) := by decide +kernel
theorem dX4_savingAt_29 : decode cX4_savingAt 29 = .ok (.ifCond .eq 18, 3) := by decide +kernel
theorem dX4_savingAt_32 : decode cX4_savingAt 32 = .ok (.aload_n 2, 1) := by decide +kernel
theorem dX4_savingAt_33 : decode cX4_savingAt 33 = .ok (.aload_n 0, 1) := by decide +kernel
theorem dX4_savingAt_34 : decode cX4_savingAt 34 = .ok (.getfield 15, 3) := by decide +kernel
theorem dX4_savingAt_37 : decode cX4_savingAt 37 = .ok (.iload 4, 2) := by decide +kernel
theorem dX4_savingAt_39 : decode cX4_savingAt 39 = .ok (.iaload, 1) := by decide +kernel
theorem dX4_savingAt_40 : decode cX4_savingAt 40 = .ok (.iload_n 1, 1) := by decide +kernel
theorem dX4_savingAt_41 : decode cX4_savingAt 41 = .ok (.invokevirtual 61, 3) := by decide +kernel
theorem dX4_savingAt_44 : decode cX4_savingAt 44 = .ok (.ifCond .ne 5, 3) := by decide +kernel
theorem dX4_savingAt_47 : decode cX4_savingAt 47 = .ok (.iconst 0, 1) := by decide +kernel
theorem dX4_savingAt_48 : decode cX4_savingAt 48 = .ok (.ireturn, 1) := by decide +kernel
theorem dX4_savingAt_49 : decode cX4_savingAt 49 = .ok (.iload_n 3, 1) := by decide +kernel
theorem dX4_savingAt_50 : decode cX4_savingAt 50 = .ok (.aload_n 2, 1) := by decide +kernel
theorem dX4_savingAt_51 : decode cX4_savingAt 51 = .ok (.aload_n 0, 1) := by decide +kernel
theorem dX4_savingAt_52 : decode cX4_savingAt 52 = .ok (.getfield 15, 3) := by decide +kernel
theorem dX4_savingAt_55 : decode cX4_savingAt 55 = .ok (.iload 4, 2) := by decide +kernel
theorem dX4_savingAt_57 : decode cX4_savingAt 57 = .ok (.iaload, 1) := by decide +kernel
theorem dX4_savingAt_58 : decode cX4_savingAt 58 = .ok (.aload_n 0, 1) := by decide +kernel
theorem dX4_savingAt_59 : decode cX4_savingAt 59 = .ok (.getfield 18, 3) := by decide +kernel
theorem dX4_savingAt_62 : decode cX4_savingAt 62 = .ok (.invokevirtual 67, 3) := by decide +kernel
theorem dX4_savingAt_65 : decode cX4_savingAt 65 = .ok (.aload_n 2, 1) := by decide +kernel
theorem dX4_savingAt_66 : decode cX4_savingAt 66 = .ok (.aload_n 0, 1) := by decide +kernel
theorem dX4_savingAt_67 : decode cX4_savingAt 67 = .ok (.getfield 15, 3) := by decide +kernel
theorem dX4_savingAt_70 : decode cX4_savingAt 70 = .ok (.iload 4, 2) := by decide +kernel
theorem dX4_savingAt_72 : decode cX4_savingAt 72 = .ok (.iaload, 1) := by decide +kernel
theorem dX4_savingAt_73 : decode cX4_savingAt 73 = .ok (.iload_n 1, 1) := by decide +kernel
theorem dX4_savingAt_74 : decode cX4_savingAt 74 = .ok (.invokevirtual 67, 3) := by decide +kernel
theorem dX4_savingAt_77 : decode cX4_savingAt 77 = .ok (.isub, 1) := by decide +kernel
theorem dX4_savingAt_78 : decode cX4_savingAt 78 = .ok (.iadd, 1) := by decide +kernel
theorem dX4_savingAt_79 : decode cX4_savingAt 79 = .ok (.istore_n 3, 1) := by decide +kernel
theorem dX4_savingAt_80 : decode cX4_savingAt 80 = .ok (.iinc 4 1, 3) := by decide +kernel
theorem dX4_savingAt_83 : decode cX4_savingAt 83 = .ok (.goto (-78), 3) := by decide +kernel
theorem dX4_savingAt_86 : decode cX4_savingAt 86 = .ok (.iload_n 3, 1) := by decide +kernel
theorem dX4_savingAt_87 : decode cX4_savingAt 87 = .ok (.ireturn, 1) := by decide +kernel
theorem dX5_init_0 : decode cX5_init 0 = .ok (.aload_n 0, 1) := by decide +kernel
theorem dX5_init_1 : decode cX5_init 1 = .ok (.invokespecial 3, 3) := by decide +kernel
theorem dX5_init_4 : decode cX5_init 4 = .ok (.aload_n 0, 1) := by decide +kernel
theorem dX5_init_5 : decode cX5_init 5 = .ok (.bipush 40, 2) := by decide +kernel
theorem dX5_init_7 : decode cX5_init 7 = .ok (.newarray .int, 2) := by decide +kernel
theorem dX5_init_9 : decode cX5_init 9 = .ok (.putfield 9, 3) := by decide +kernel
theorem dX5_init_12 : decode cX5_init 12 = .ok (.aload_n 0, 1) := by decide +kernel
theorem dX5_init_13 : decode cX5_init 13 = .ok (.iconst 4, 1) := by decide +kernel
theorem dX5_init_14 : decode cX5_init 14 = .ok (.newarray .int, 2) := by decide +kernel
theorem dX5_init_16 : decode cX5_init 16 = .ok (.putfield 15, 3) := by decide +kernel
theorem dX5_init_19 : decode cX5_init 19 = .ok (.return_, 1) := by decide +kernel
theorem dX5_begin_0 : decode cX5_begin 0 = .ok (.aload_n 0, 1) := by decide +kernel
theorem dX5_begin_1 : decode cX5_begin 1 = .ok (.getfield 15, 3) := by decide +kernel
theorem dX5_begin_4 : decode cX5_begin 4 = .ok (.iconst 0, 1) := by decide +kernel
theorem dX5_begin_5 : decode cX5_begin 5 = .ok (.invokestatic 18, 3) := by decide +kernel
theorem dX5_begin_8 : decode cX5_begin 8 = .ok (.return_, 1) := by decide +kernel
theorem dX5_at_0 : decode cX5_at 0 = .ok (.aload_n 0, 1) := by decide +kernel
theorem dX5_at_1 : decode cX5_at 1 = .ok (.getfield 9, 3) := by decide +kernel
theorem dX5_at_4 : decode cX5_at 4 = .ok (.iload_n 1, 1) := by decide +kernel
theorem dX5_at_5 : decode cX5_at 5 = .ok (.bipush 10, 2) := by decide +kernel
theorem dX5_at_7 : decode cX5_at 7 = .ok (.imul, 1) := by decide +kernel
theorem dX5_at_8 : decode cX5_at 8 = .ok (.iload_n 2, 1) := by decide +kernel
theorem dX5_at_9 : decode cX5_at 9 = .ok (.iadd, 1) := by decide +kernel
theorem dX5_at_10 : decode cX5_at 10 = .ok (.iaload, 1) := by decide +kernel
theorem dX5_at_11 : decode cX5_at 11 = .ok (.ireturn, 1) := by decide +kernel
theorem dX5_append_0 : decode cX5_append 0 = .ok (.aload_n 0, 1) := by decide +kernel
theorem dX5_append_1 : decode cX5_append 1 = .ok (.getfield 9, 3) := by decide +kernel
theorem dX5_append_4 : decode cX5_append 4 = .ok (.iload_n 1, 1) := by decide +kernel
theorem dX5_append_5 : decode cX5_append 5 = .ok (.bipush 10, 2) := by decide +kernel
theorem dX5_append_7 : decode cX5_append 7 = .ok (.imul, 1) := by decide +kernel
theorem dX5_append_8 : decode cX5_append 8 = .ok (.aload_n 0, 1) := by decide +kernel
theorem dX5_append_9 : decode cX5_append 9 = .ok (.getfield 15, 3) := by decide +kernel
theorem dX5_append_12 : decode cX5_append 12 = .ok (.iload_n 1, 1) := by decide +kernel
theorem dX5_append_13 : decode cX5_append 13 = .ok (.iaload, 1) := by decide +kernel
theorem dX5_append_14 : decode cX5_append 14 = .ok (.iadd, 1) := by decide +kernel
theorem dX5_append_15 : decode cX5_append 15 = .ok (.iload_n 2, 1) := by decide +kernel
theorem dX5_append_16 : decode cX5_append 16 = .ok (.iastore, 1) := by decide +kernel
theorem dX5_append_17 : decode cX5_append 17 = .ok (.aload_n 0, 1) := by decide +kernel
theorem dX5_append_18 : decode cX5_append 18 = .ok (.getfield 15, 3) := by decide +kernel
theorem dX5_append_21 : decode cX5_append 21 = .ok (.iload_n 1, 1) := by decide +kernel
theorem dX5_append_22 : decode cX5_append 22 = .ok (.dup2, 1) := by decide +kernel
theorem dX5_append_23 : decode cX5_append 23 = .ok (.iaload, 1) := by decide +kernel
theorem dX5_append_24 : decode cX5_append 24 = .ok (.iconst 1, 1) := by decide +kernel
theorem dX5_append_25 : decode cX5_append 25 = .ok (.iadd, 1) := by decide +kernel
theorem dX5_append_26 : decode cX5_append 26 = .ok (.iastore, 1) := by decide +kernel
theorem dX5_append_27 : decode cX5_append 27 = .ok (.return_, 1) := by decide +kernel
theorem dX5_placeOf_0 : decode cX5_placeOf 0 = .ok (.iconst 0, 1) := by decide +kernel
theorem dX5_placeOf_1 : decode cX5_placeOf 1 = .ok (.istore_n 3, 1) := by decide +kernel
theorem dX5_placeOf_2 : decode cX5_placeOf 2 = .ok (.iload_n 3, 1) := by decide +kernel
theorem dX5_placeOf_3 : decode cX5_placeOf 3 = .ok (.aload_n 0, 1) := by decide +kernel
theorem dX5_placeOf_4 : decode cX5_placeOf 4 = .ok (.getfield 15, 3) := by decide +kernel
theorem dX5_placeOf_7 : decode cX5_placeOf 7 = .ok (.iload_n 1, 1) := by decide +kernel
theorem dX5_placeOf_8 : decode cX5_placeOf 8 = .ok (.iaload, 1) := by decide +kernel
theorem dX5_placeOf_9 : decode cX5_placeOf 9 = .ok (.if_icmp .ge 21, 3) := by decide +kernel
theorem dX5_placeOf_12 : decode cX5_placeOf 12 = .ok (.aload_n 0, 1) := by decide +kernel
theorem dX5_placeOf_13 : decode cX5_placeOf 13 = .ok (.iload_n 1, 1) := by decide +kernel
theorem dX5_placeOf_14 : decode cX5_placeOf 14 = .ok (.iload_n 3, 1) := by decide +kernel
theorem dX5_placeOf_15 : decode cX5_placeOf 15 = .ok (.invokevirtual 24, 3) := by decide +kernel
theorem dX5_placeOf_18 : decode cX5_placeOf 18 = .ok (.iload_n 2, 1) := by decide +kernel
theorem dX5_placeOf_19 : decode cX5_placeOf 19 = .ok (.if_icmp .ne 5, 3) := by decide +kernel
theorem dX5_placeOf_22 : decode cX5_placeOf 22 = .ok (.iload_n 3, 1) := by decide +kernel
theorem dX5_placeOf_23 : decode cX5_placeOf 23 = .ok (.ireturn, 1) := by decide +kernel
theorem dX5_placeOf_24 : decode cX5_placeOf 24 = .ok (.iinc 3 1, 3) := by decide +kernel
theorem dX5_placeOf_27 : decode cX5_placeOf 27 = .ok (.goto (-25), 3) := by decide +kernel
theorem dX5_placeOf_30 : decode cX5_placeOf 30 = .ok (.iconst (-1), 1) := by decide +kernel
theorem dX5_placeOf_31 : decode cX5_placeOf 31 = .ok (.ireturn, 1) := by decide +kernel
theorem dX5_drop_0 : decode cX5_drop 0 = .ok (.aload_n 0, 1) := by decide +kernel
theorem dX5_drop_1 : decode cX5_drop 1 = .ok (.iload_n 1, 1) := by decide +kernel
theorem dX5_drop_2 : decode cX5_drop 2 = .ok (.iload_n 2, 1) := by decide +kernel
theorem dX5_drop_3 : decode cX5_drop 3 = .ok (.invokevirtual 28, 3) := by decide +kernel
theorem dX5_drop_6 : decode cX5_drop 6 = .ok (.istore_n 3, 1) := by decide +kernel
theorem dX5_drop_7 : decode cX5_drop 7 = .ok (.iload_n 3, 1) := by decide +kernel
theorem dX5_drop_8 : decode cX5_drop 8 = .ok (.iconst (-1), 1) := by decide +kernel
theorem dX5_drop_9 : decode cX5_drop 9 = .ok (.if_icmp .ne 4, 3) := by decide +kernel
theorem dX5_drop_12 : decode cX5_drop 12 = .ok (.return_, 1) := by decide +kernel
theorem dX5_drop_13 : decode cX5_drop 13 = .ok (.aload_n 0, 1) := by decide +kernel
theorem dX5_drop_14 : decode cX5_drop 14 = .ok (.getfield 15, 3) := by decide +kernel
theorem dX5_drop_17 : decode cX5_drop 17 = .ok (.iload_n 1, 1) := by decide +kernel
theorem dX5_drop_18 : decode cX5_drop 18 = .ok (.dup2, 1) := by decide +kernel
theorem dX5_drop_19 : decode cX5_drop 19 = .ok (.iaload, 1) := by decide +kernel
theorem dX5_drop_20 : decode cX5_drop 20 = .ok (.iconst 1, 1) := by decide +kernel
theorem dX5_drop_21 : decode cX5_drop 21 = .ok (.isub, 1) := by decide +kernel
theorem dX5_drop_22 : decode cX5_drop 22 = .ok (.iastore, 1) := by decide +kernel
theorem dX5_drop_23 : decode cX5_drop 23 = .ok (.iload_n 3, 1) := by decide +kernel
theorem dX5_drop_24 : decode cX5_drop 24 = .ok (.istore 4, 2) := by decide +kernel
theorem dX5_drop_26 : decode cX5_drop 26 = .ok (.iload 4, 2) := by decide +kernel
theorem dX5_drop_28 : decode cX5_drop 28 = .ok (.aload_n 0, 1) := by decide +kernel
theorem dX5_drop_29 : decode cX5_drop 29 = .ok (.getfield 15, 3) := by decide +kernel
theorem dX5_drop_32 : decode cX5_drop 32 = .ok (.iload_n 1, 1) := by decide +kernel
theorem dX5_drop_33 : decode cX5_drop 33 = .ok (.iaload, 1) := by decide +kernel
theorem dX5_drop_34 : decode cX5_drop 34 = .ok (.if_icmp .ge 30, 3) := by decide +kernel
theorem dX5_drop_37 : decode cX5_drop 37 = .ok (.aload_n 0, 1) := by decide +kernel
theorem dX5_drop_38 : decode cX5_drop 38 = .ok (.getfield 9, 3) := by decide +kernel
theorem dX5_drop_41 : decode cX5_drop 41 = .ok (.iload_n 1, 1) := by decide +kernel
theorem dX5_drop_42 : decode cX5_drop 42 = .ok (.bipush 10, 2) := by decide +kernel
theorem dX5_drop_44 : decode cX5_drop 44 = .ok (.imul, 1) := by decide +kernel
theorem dX5_drop_45 : decode cX5_drop 45 = .ok (.iload 4, 2) := by decide +kernel
theorem dX5_drop_47 : decode cX5_drop 47 = .ok (.iadd, 1) := by decide +kernel
theorem dX5_drop_48 : decode cX5_drop 48 = .ok (.aload_n 0, 1) := by decide +kernel
theorem dX5_drop_49 : decode cX5_drop 49 = .ok (.iload_n 1, 1) := by decide +kernel
theorem dX5_drop_50 : decode cX5_drop 50 = .ok (.iload 4, 2) := by decide +kernel
theorem dX5_drop_52 : decode cX5_drop 52 = .ok (.iconst 1, 1) := by decide +kernel
theorem dX5_drop_53 : decode cX5_drop 53 = .ok (.iadd, 1) := by decide +kernel
theorem dX5_drop_54 : decode cX5_drop 54 = .ok (.invokevirtual 24, 3) := by decide +kernel
theorem dX5_drop_57 : decode cX5_drop 57 = .ok (.iastore, 1) := by decide +kernel
theorem dX5_drop_58 : decode cX5_drop 58 = .ok (.iinc 4 1, 3) := by decide +kernel
theorem dX5_drop_61 : decode cX5_drop 61 = .ok (.goto (-35), 3) := by decide +kernel
theorem dX5_drop_64 : decode cX5_drop 64 = .ok (.return_, 1) := by decide +kernel
theorem dX5_exchange_0 : decode cX5_exchange 0 = .ok (.aload_n 0, 1) := by decide +kernel
theorem dX5_exchange_1 : decode cX5_exchange 1 = .ok (.iload_n 1, 1) := by decide +kernel
theorem dX5_exchange_2 : decode cX5_exchange 2 = .ok (.iload_n 2, 1) := by decide +kernel
theorem dX5_exchange_3 : decode cX5_exchange 3 = .ok (.invokevirtual 28, 3) := by decide +kernel
theorem dX5_exchange_6 : decode cX5_exchange 6 = .ok (.istore 5, 2) := by decide +kernel
theorem dX5_exchange_8 : decode cX5_exchange 8 = .ok (.aload_n 0, 1) := by decide +kernel
theorem dX5_exchange_9 : decode cX5_exchange 9 = .ok (.iload_n 3, 1) := by decide +kernel
theorem dX5_exchange_10 : decode cX5_exchange 10 = .ok (.iload 4, 2) := by decide +kernel
theorem dX5_exchange_12 : decode cX5_exchange 12 = .ok (.invokevirtual 28, 3) := by decide +kernel
theorem dX5_exchange_15 : decode cX5_exchange 15 = .ok (.istore 6, 2) := by decide +kernel
theorem dX5_exchange_17 : decode cX5_exchange 17 = .ok (.iload 5, 2) := by decide +kernel
theorem dX5_exchange_19 : decode cX5_exchange 19 = .ok (.iconst (-1), 1) := by decide +kernel
theorem dX5_exchange_20 : decode cX5_exchange 20 = .ok (.if_icmp .eq 9, 3) := by decide +kernel
theorem dX5_exchange_23 : decode cX5_exchange 23 = .ok (.iload 6, 2) := by decide +kernel
theorem dX5_exchange_25 : decode cX5_exchange 25 = .ok (.iconst (-1), 1) := by decide +kernel
theorem dX5_exchange_26 : decode cX5_exchange 26 = .ok (.if_icmp .ne 4, 3) := by decide +kernel
theorem dX5_exchange_29 : decode cX5_exchange 29 = .ok (.return_, 1) := by decide +kernel
theorem dX5_exchange_30 : decode cX5_exchange 30 = .ok (.aload_n 0, 1) := by decide +kernel
theorem dX5_exchange_31 : decode cX5_exchange 31 = .ok (.getfield 9, 3) := by decide +kernel
theorem dX5_exchange_34 : decode cX5_exchange 34 = .ok (.iload_n 1, 1) := by decide +kernel
theorem dX5_exchange_35 : decode cX5_exchange 35 = .ok (.bipush 10, 2) := by decide +kernel
theorem dX5_exchange_37 : decode cX5_exchange 37 = .ok (.imul, 1) := by decide +kernel
theorem dX5_exchange_38 : decode cX5_exchange 38 = .ok (.iload 5, 2) := by decide +kernel
theorem dX5_exchange_40 : decode cX5_exchange 40 = .ok (.iadd, 1) := by decide +kernel
theorem dX5_exchange_41 : decode cX5_exchange 41 = .ok (.iload 4, 2) := by decide +kernel
theorem dX5_exchange_43 : decode cX5_exchange 43 = .ok (.iastore, 1) := by decide +kernel
theorem dX5_exchange_44 : decode cX5_exchange 44 = .ok (.aload_n 0, 1) := by decide +kernel
theorem dX5_exchange_45 : decode cX5_exchange 45 = .ok (.getfield 9, 3) := by decide +kernel
theorem dX5_exchange_48 : decode cX5_exchange 48 = .ok (.iload_n 3, 1) := by decide +kernel
theorem dX5_exchange_49 : decode cX5_exchange 49 = .ok (.bipush 10, 2) := by decide +kernel
theorem dX5_exchange_51 : decode cX5_exchange 51 = .ok (.imul, 1) := by decide +kernel
theorem dX5_exchange_52 : decode cX5_exchange 52 = .ok (.iload 6, 2) := by decide +kernel
theorem dX5_exchange_54 : decode cX5_exchange 54 = .ok (.iadd, 1) := by decide +kernel
theorem dX5_exchange_55 : decode cX5_exchange 55 = .ok (.iload_n 2, 1) := by decide +kernel
theorem dX5_exchange_56 : decode cX5_exchange 56 = .ok (.iastore, 1) := by decide +kernel
theorem dX5_exchange_57 : decode cX5_exchange 57 = .ok (.return_, 1) := by decide +kernel
theorem dX6_init_0 : decode cX6_init 0 = .ok (.aload_n 0, 1) := by decide +kernel
theorem dX6_init_1 : decode cX6_init 1 = .ok (.invokespecial 3, 3) := by decide +kernel
theorem dX6_init_4 : decode cX6_init 4 = .ok (.aload_n 0, 1) := by decide +kernel
theorem dX6_init_5 : decode cX6_init 5 = .ok (.iconst 0, 1) := by decide +kernel
theorem dX6_init_6 : decode cX6_init 6 = .ok (.putfield 9, 3) := by decide +kernel
theorem dX6_init_9 : decode cX6_init 9 = .ok (.aload_n 0, 1) := by decide +kernel
theorem dX6_init_10 : decode cX6_init 10 = .ok (.iconst 0, 1) := by decide +kernel
theorem dX6_init_11 : decode cX6_init 11 = .ok (.putfield 15, 3) := by decide +kernel
theorem dX6_init_14 : decode cX6_init 14 = .ok (.aload_n 0, 1) := by decide +kernel
theorem dX6_init_15 : decode cX6_init 15 = .ok (.iconst 1, 1) := by decide +kernel
theorem dX6_init_16 : decode cX6_init 16 = .ok (.putfield 18, 3) := by decide +kernel
theorem dX6_init_19 : decode cX6_init 19 = .ok (.aload_n 0, 1) := by decide +kernel
theorem dX6_init_20 : decode cX6_init 20 = .ok (.iconst 2, 1) := by decide +kernel
theorem dX6_init_21 : decode cX6_init 21 = .ok (.putfield 21, 3) := by decide +kernel
theorem dX6_init_24 : decode cX6_init 24 = .ok (.aload_n 0, 1) := by decide +kernel
theorem dX6_init_25 : decode cX6_init 25 = .ok (.bipush 6, 2) := by decide +kernel
theorem dX6_init_27 : decode cX6_init 27 = .ok (.putfield 24, 3) := by decide +kernel
theorem dX6_init_30 : decode cX6_init 30 = .ok (.return_, 1) := by decide +kernel
theorem dX6_choose_0 : decode cX6_choose 0 = .ok (.aload_n 0, 1) := by decide +kernel
theorem dX6_choose_1 : decode cX6_choose 1 = .ok (.iload_n 1, 1) := by decide +kernel
theorem dX6_choose_2 : decode cX6_choose 2 = .ok (.putfield 9, 3) := by decide +kernel
theorem dX6_choose_5 : decode cX6_choose 5 = .ok (.aload_n 0, 1) := by decide +kernel
theorem dX6_choose_6 : decode cX6_choose 6 = .ok (.iload_n 2, 1) := by decide +kernel
theorem dX6_choose_7 : decode cX6_choose 7 = .ok (.putfield 15, 3) := by decide +kernel
theorem dX6_choose_10 : decode cX6_choose 10 = .ok (.aload_n 0, 1) := by decide +kernel
theorem dX6_choose_11 : decode cX6_choose 11 = .ok (.iload_n 3, 1) := by decide +kernel
theorem dX6_choose_12 : decode cX6_choose 12 = .ok (.putfield 18, 3) := by decide +kernel
theorem dX6_choose_15 : decode cX6_choose 15 = .ok (.return_, 1) := by decide +kernel
theorem dX6_setPrices_0 : decode cX6_setPrices 0 = .ok (.aload_n 0, 1) := by decide +kernel
theorem dX6_setPrices_1 : decode cX6_setPrices 1 = .ok (.iload_n 1, 1) := by decide +kernel
theorem dX6_setPrices_2 : decode cX6_setPrices 2 = .ok (.putfield 21, 3) := by decide +kernel
theorem dX6_setPrices_5 : decode cX6_setPrices 5 = .ok (.aload_n 0, 1) := by decide +kernel
theorem dX6_setPrices_6 : decode cX6_setPrices 6 = .ok (.iload_n 2, 1) := by decide +kernel
theorem dX6_setPrices_7 : decode cX6_setPrices 7 = .ok (.putfield 24, 3) := by decide +kernel
theorem dX6_setPrices_10 : decode cX6_setPrices 10 = .ok (.return_, 1) := by decide +kernel
theorem dX7_init_0 : decode cX7_init 0 = .ok (.aload_n 0, 1) := by decide +kernel
theorem dX7_init_1 : decode cX7_init 1 = .ok (.invokespecial 3, 3) := by decide +kernel
theorem dX7_init_4 : decode cX7_init 4 = .ok (.aload_n 0, 1) := by decide +kernel
theorem dX7_init_5 : decode cX7_init 5 = .ok (.bipush 60, 2) := by decide +kernel
theorem dX7_init_7 : decode cX7_init 7 = .ok (.newarray .int, 2) := by decide +kernel
theorem dX7_init_9 : decode cX7_init 9 = .ok (.putfield 9, 3) := by decide +kernel
theorem dX7_init_12 : decode cX7_init 12 = .ok (.aload_n 0, 1) := by decide +kernel
theorem dX7_init_13 : decode cX7_init 13 = .ok (.bipush 60, 2) := by decide +kernel
theorem dX7_init_15 : decode cX7_init 15 = .ok (.newarray .int, 2) := by decide +kernel
theorem dX7_init_17 : decode cX7_init 17 = .ok (.putfield 15, 3) := by decide +kernel
theorem dX7_init_20 : decode cX7_init 20 = .ok (.aload_n 0, 1) := by decide +kernel
theorem dX7_init_21 : decode cX7_init 21 = .ok (.bipush 60, 2) := by decide +kernel
theorem dX7_init_23 : decode cX7_init 23 = .ok (.newarray .boolean, 2) := by decide +kernel
theorem dX7_init_25 : decode cX7_init 25 = .ok (.putfield 18, 3) := by decide +kernel
theorem dX7_init_28 : decode cX7_init 28 = .ok (.aload_n 0, 1) := by decide +kernel
theorem dX7_init_29 : decode cX7_init 29 = .ok (.bipush 60, 2) := by decide +kernel
theorem dX7_init_31 : decode cX7_init 31 = .ok (.newarray .int, 2) := by decide +kernel
theorem dX7_init_33 : decode cX7_init 33 = .ok (.putfield 22, 3) := by decide +kernel
theorem dX7_init_36 : decode cX7_init 36 = .ok (.return_, 1) := by decide +kernel
theorem dX7_tell_0 : decode cX7_tell 0 = .ok (.aload_n 0, 1) := by decide +kernel
theorem dX7_tell_1 : decode cX7_tell 1 = .ok (.getfield 9, 3) := by decide +kernel
theorem dX7_tell_4 : decode cX7_tell 4 = .ok (.aload_n 0, 1) := by decide +kernel
theorem dX7_tell_5 : decode cX7_tell 5 = .ok (.getfield 25, 3) := by decide +kernel
theorem dX7_tell_8 : decode cX7_tell 8 = .ok (.iload_n 1, 1) := by decide +kernel
theorem dX7_tell_9 : decode cX7_tell 9 = .ok (.iastore, 1) := by decide +kernel
theorem dX7_tell_10 : decode cX7_tell 10 = .ok (.aload_n 0, 1) := by decide +kernel
theorem dX7_tell_11 : decode cX7_tell 11 = .ok (.getfield 15, 3) := by decide +kernel
theorem dX7_tell_14 : decode cX7_tell 14 = .ok (.aload_n 0, 1) := by decide +kernel
theorem dX7_tell_15 : decode cX7_tell 15 = .ok (.getfield 25, 3) := by decide +kernel
theorem dX7_tell_18 : decode cX7_tell 18 = .ok (.iload_n 2, 1) := by decide +kernel
theorem dX7_tell_19 : decode cX7_tell 19 = .ok (.iastore, 1) := by decide +kernel
theorem dX7_tell_20 : decode cX7_tell 20 = .ok (.aload_n 0, 1) := by decide +kernel
theorem dX7_tell_21 : decode cX7_tell 21 = .ok (.getfield 18, 3) := by decide +kernel
theorem dX7_tell_24 : decode cX7_tell 24 = .ok (.aload_n 0, 1) := by decide +kernel
theorem dX7_tell_25 : decode cX7_tell 25 = .ok (.getfield 25, 3) := by decide +kernel
theorem dX7_tell_28 : decode cX7_tell 28 = .ok (.iload_n 3, 1) := by decide +kernel
theorem dX7_tell_29 : decode cX7_tell 29 = .ok (.bastore, 1) := by decide +kernel
theorem dX7_tell_30 : decode cX7_tell 30 = .ok (.aload_n 0, 1) := by decide +kernel
theorem dX7_tell_31 : decode cX7_tell 31 = .ok (.getfield 22, 3) := by decide +kernel
theorem dX7_tell_34 : decode cX7_tell 34 = .ok (.aload_n 0, 1) := by decide +kernel
theorem dX7_tell_35 : decode cX7_tell 35 = .ok (.getfield 25, 3) := by decide +kernel
theorem dX7_tell_38 : decode cX7_tell 38 = .ok (.iload 4, 2) := by decide +kernel
theorem dX7_tell_40 : decode cX7_tell 40 = .ok (.iastore, 1) := by decide +kernel
theorem dX7_tell_41 : decode cX7_tell 41 = .ok (.aload_n 0, 1) := by decide +kernel
theorem dX7_tell_42 : decode cX7_tell 42 = .ok (.dup, 1) := by decide +kernel
theorem dX7_tell_43 : decode cX7_tell 43 = .ok (.getfield 25, 3) := by decide +kernel
theorem dX7_tell_46 : decode cX7_tell 46 = .ok (.iconst 1, 1) := by decide +kernel
theorem dX7_tell_47 : decode cX7_tell 47 = .ok (.iadd, 1) := by decide +kernel
theorem dX7_tell_48 : decode cX7_tell 48 = .ok (.putfield 25, 3) := by decide +kernel
theorem dX7_tell_51 : decode cX7_tell 51 = .ok (.aload_n 0, 1) := by decide +kernel
theorem dX7_tell_52 : decode cX7_tell 52 = .ok (.getfield 25, 3) := by decide +kernel
theorem dX7_tell_55 : decode cX7_tell 55 = .ok (.ireturn, 1) := by decide +kernel
theorem dX8_init_0 : decode cX8_init 0 = .ok (.aload_n 0, 1) := by decide +kernel
theorem dX8_init_1 : decode cX8_init 1 = .ok (.invokespecial 3, 3) := by decide +kernel
theorem dX8_init_4 : decode cX8_init 4 = .ok (.aload_n 0, 1) := by decide +kernel
theorem dX8_init_5 : decode cX8_init 5 = .ok (.bipush 60, 2) := by decide +kernel
theorem dX8_init_7 : decode cX8_init 7 = .ok (.newarray .byte, 2) := by decide +kernel
theorem dX8_init_9 : decode cX8_init 9 = .ok (.putfield 9, 3) := by decide +kernel
theorem dX8_init_12 : decode cX8_init 12 = .ok (.aload_n 0, 1) := by decide +kernel
theorem dX8_init_13 : decode cX8_init 13 = .ok (.bipush 60, 2) := by decide +kernel
theorem dX8_init_15 : decode cX8_init 15 = .ok (.newarray .int, 2) := by decide +kernel
theorem dX8_init_17 : decode cX8_init 17 = .ok (.putfield 15, 3) := by decide +kernel
theorem dX8_init_20 : decode cX8_init 20 = .ok (.aload_n 0, 1) := by decide +kernel
theorem dX8_init_21 : decode cX8_init 21 = .ok (.iconst 0, 1) := by decide +kernel
theorem dX8_init_22 : decode cX8_init 22 = .ok (.putfield 19, 3) := by decide +kernel
theorem dX8_init_25 : decode cX8_init 25 = .ok (.return_, 1) := by decide +kernel
theorem dX8_holdPage_0 : decode cX8_holdPage 0 = .ok (.aload_n 0, 1) := by decide +kernel
theorem dX8_holdPage_1 : decode cX8_holdPage 1 = .ok (.iconst 1, 1) := by decide +kernel
theorem dX8_holdPage_2 : decode cX8_holdPage 2 = .ok (.putfield 19, 3) := by decide +kernel
theorem dX8_holdPage_5 : decode cX8_holdPage 5 = .ok (.aload_n 0, 1) := by decide +kernel
theorem dX8_holdPage_6 : decode cX8_holdPage 6 = .ok (.iload_n 1, 1) := by decide +kernel
theorem dX8_holdPage_7 : decode cX8_holdPage 7 = .ok (.putfield 23, 3) := by decide +kernel
theorem dX8_holdPage_10 : decode cX8_holdPage 10 = .ok (.aload_n 0, 1) := by decide +kernel
theorem dX8_holdPage_11 : decode cX8_holdPage 11 = .ok (.aload_n 2, 1) := by decide +kernel
theorem dX8_holdPage_12 : decode cX8_holdPage 12 = .ok (.getfield 26, 3) := by decide +kernel
theorem dX8_holdPage_15 : decode cX8_holdPage 15 = .ok (.putfield 31, 3) := by decide +kernel
theorem dX8_holdPage_18 : decode cX8_holdPage 18 = .ok (.aload_n 0, 1) := by decide +kernel
theorem dX8_holdPage_19 : decode cX8_holdPage 19 = .ok (.aload_n 2, 1) := by decide +kernel
theorem dX8_holdPage_20 : decode cX8_holdPage 20 = .ok (.getfield 32, 3) := by decide +kernel
theorem dX8_holdPage_23 : decode cX8_holdPage 23 = .ok (.invokestatic 35, 3) := by decide +kernel
theorem dX8_holdPage_26 : decode cX8_holdPage 26 = .ok (.putfield 41, 3) := by decide +kernel
theorem dX8_holdPage_29 : decode cX8_holdPage 29 = .ok (.aload_n 0, 1) := by decide +kernel
theorem dX8_holdPage_30 : decode cX8_holdPage 30 = .ok (.aload_n 2, 1) := by decide +kernel
theorem dX8_holdPage_31 : decode cX8_holdPage 31 = .ok (.getfield 42, 3) := by decide +kernel
theorem dX8_holdPage_34 : decode cX8_holdPage 34 = .ok (.putfield 45, 3) := by decide +kernel
theorem dX8_holdPage_37 : decode cX8_holdPage 37 = .ok (.return_, 1) := by decide +kernel
theorem dX8_holdNodes_0 : decode cX8_holdNodes 0 = .ok (.aload_n 0, 1) := by decide +kernel
theorem dX8_holdNodes_1 : decode cX8_holdNodes 1 = .ok (.iconst 3, 1) := by decide +kernel
theorem dX8_holdNodes_2 : decode cX8_holdNodes 2 = .ok (.putfield 19, 3) := by decide +kernel
theorem dX8_holdNodes_5 : decode cX8_holdNodes 5 = .ok (.aload_n 0, 1) := by decide +kernel
theorem dX8_holdNodes_6 : decode cX8_holdNodes 6 = .ok (.iload_n 2, 1) := by decide +kernel
theorem dX8_holdNodes_7 : decode cX8_holdNodes 7 = .ok (.putfield 46, 3) := by decide +kernel
theorem dX8_holdNodes_10 : decode cX8_holdNodes 10 = .ok (.iconst 0, 1) := by decide +kernel
theorem dX8_holdNodes_11 : decode cX8_holdNodes 11 = .ok (.istore_n 3, 1) := by decide +kernel
theorem dX8_holdNodes_12 : decode cX8_holdNodes 12 = .ok (.iload_n 3, 1) := by decide +kernel
theorem dX8_holdNodes_13 : decode cX8_holdNodes 13 = .ok (.iload_n 2, 1) := by decide +kernel
theorem dX8_holdNodes_14 : decode cX8_holdNodes 14 = .ok (.if_icmp .ge 22, 3) := by decide +kernel
theorem dX8_holdNodes_17 : decode cX8_holdNodes 17 = .ok (.aload_n 0, 1) := by decide +kernel
theorem dX8_holdNodes_18 : decode cX8_holdNodes 18 = .ok (.getfield 9, 3) := by decide +kernel
theorem dX8_holdNodes_21 : decode cX8_holdNodes 21 = .ok (.iload_n 3, 1) := by decide +kernel
theorem dX8_holdNodes_22 : decode cX8_holdNodes 22 = .ok (.aload_n 1, 1) := by decide +kernel
theorem dX8_holdNodes_23 : decode cX8_holdNodes 23 = .ok (.iload_n 3, 1) := by decide +kernel
theorem dX8_holdNodes_24 : decode cX8_holdNodes 24 = .ok (.aaload, 1) := by decide +kernel
theorem dX8_holdNodes_25 : decode cX8_holdNodes 25 = .ok (.getfield 49, 3) := by decide +kernel
theorem dX8_holdNodes_28 : decode cX8_holdNodes 28 = .ok (.i2b, 1) := by decide +kernel
theorem dX8_holdNodes_29 : decode cX8_holdNodes 29 = .ok (.bastore, 1) := by decide +kernel
theorem dX8_holdNodes_30 : decode cX8_holdNodes 30 = .ok (.iinc 3 1, 3) := by decide +kernel
theorem dX8_holdNodes_33 : decode cX8_holdNodes 33 = .ok (.goto (-21), 3) := by decide +kernel
theorem dX8_holdNodes_36 : decode cX8_holdNodes 36 = .ok (.return_, 1) := by decide +kernel
theorem dX8_holdCells_0 : decode cX8_holdCells 0 = .ok (.aload_n 0, 1) := by decide +kernel
theorem dX8_holdCells_1 : decode cX8_holdCells 1 = .ok (.iconst 4, 1) := by decide +kernel
theorem dX8_holdCells_2 : decode cX8_holdCells 2 = .ok (.putfield 19, 3) := by decide +kernel
theorem dX8_holdCells_5 : decode cX8_holdCells 5 = .ok (.aload_n 0, 1) := by decide +kernel
theorem dX8_holdCells_6 : decode cX8_holdCells 6 = .ok (.iconst 4, 1) := by decide +kernel
theorem dX8_holdCells_7 : decode cX8_holdCells 7 = .ok (.putfield 46, 3) := by decide +kernel
theorem dX8_holdCells_10 : decode cX8_holdCells 10 = .ok (.aload_n 1, 1) := by decide +kernel
theorem dX8_holdCells_11 : decode cX8_holdCells 11 = .ok (.getfield 54, 3) := by decide +kernel
theorem dX8_holdCells_14 : decode cX8_holdCells 14 = .ok (.iconst 0, 1) := by decide +kernel
theorem dX8_holdCells_15 : decode cX8_holdCells 15 = .ok (.aload_n 0, 1) := by decide +kernel
theorem dX8_holdCells_16 : decode cX8_holdCells 16 = .ok (.getfield 15, 3) := by decide +kernel
theorem dX8_holdCells_19 : decode cX8_holdCells 19 = .ok (.iconst 0, 1) := by decide +kernel
theorem dX8_holdCells_20 : decode cX8_holdCells 20 = .ok (.iconst 4, 1) := by decide +kernel
theorem dX8_holdCells_21 : decode cX8_holdCells 21 = .ok (.invokestatic 57, 3) := by decide +kernel
theorem dX8_holdCells_24 : decode cX8_holdCells 24 = .ok (.return_, 1) := by decide +kernel
theorem dX8_holdZeros_0 : decode cX8_holdZeros 0 = .ok (.aload_n 0, 1) := by decide +kernel
theorem dX8_holdZeros_1 : decode cX8_holdZeros 1 = .ok (.iload_n 1, 1) := by decide +kernel
theorem dX8_holdZeros_2 : decode cX8_holdZeros 2 = .ok (.putfield 19, 3) := by decide +kernel
theorem dX8_holdZeros_5 : decode cX8_holdZeros 5 = .ok (.aload_n 0, 1) := by decide +kernel
theorem dX8_holdZeros_6 : decode cX8_holdZeros 6 = .ok (.iload_n 2, 1) := by decide +kernel
theorem dX8_holdZeros_7 : decode cX8_holdZeros 7 = .ok (.putfield 46, 3) := by decide +kernel
theorem dX8_holdZeros_10 : decode cX8_holdZeros 10 = .ok (.aload_n 0, 1) := by decide +kernel
theorem dX8_holdZeros_11 : decode cX8_holdZeros 11 = .ok (.getfield 9, 3) := by decide +kernel
theorem dX8_holdZeros_14 : decode cX8_holdZeros 14 = .ok (.iconst 0, 1) := by decide +kernel
theorem dX8_holdZeros_15 : decode cX8_holdZeros 15 = .ok (.invokestatic 63, 3) := by decide +kernel
theorem dX8_holdZeros_18 : decode cX8_holdZeros 18 = .ok (.aload_n 0, 1) := by decide +kernel
theorem dX8_holdZeros_19 : decode cX8_holdZeros 19 = .ok (.getfield 15, 3) := by decide +kernel
theorem dX8_holdZeros_22 : decode cX8_holdZeros 22 = .ok (.iconst 0, 1) := by decide +kernel
theorem dX8_holdZeros_23 : decode cX8_holdZeros 23 = .ok (.invokestatic 69, 3) := by decide +kernel
theorem dX8_holdZeros_26 : decode cX8_holdZeros 26 = .ok (.return_, 1) := by decide +kernel
theorem dX8_isRow_0 : decode cX8_isRow 0 = .ok (.aload_n 0, 1) := by decide +kernel
theorem dX8_isRow_1 : decode cX8_isRow 1 = .ok (.getfield 19, 3) := by decide +kernel
theorem dX8_isRow_4 : decode cX8_isRow 4 = .ok (.iconst 3, 1) := by decide +kernel
theorem dX8_isRow_5 : decode cX8_isRow 5 = .ok (.if_icmp .eq 11, 3) := by decide +kernel
theorem dX8_isRow_8 : decode cX8_isRow 8 = .ok (.aload_n 0, 1) := by decide +kernel
theorem dX8_isRow_9 : decode cX8_isRow 9 = .ok (.getfield 19, 3) := by decide +kernel
theorem dX8_isRow_12 : decode cX8_isRow 12 = .ok (.iconst 4, 1) := by decide +kernel
theorem dX8_isRow_13 : decode cX8_isRow 13 = .ok (.if_icmp .ne 7, 3) := by decide +kernel
theorem dX8_isRow_16 : decode cX8_isRow 16 = .ok (.iconst 1, 1) := by decide +kernel
theorem dX8_isRow_17 : decode cX8_isRow 17 = .ok (.goto 4, 3) := by decide +kernel
theorem dX8_isRow_20 : decode cX8_isRow 20 = .ok (.iconst 0, 1) := by decide +kernel
theorem dX8_isRow_21 : decode cX8_isRow 21 = .ok (.ireturn, 1) := by decide +kernel
theorem dX8_hasStretch_0 : decode cX8_hasStretch 0 = .ok (.iload_n 1, 1) := by decide +kernel
theorem dX8_hasStretch_1 : decode cX8_hasStretch 1 = .ok (.ifCond .lt 21, 3) := by decide +kernel
theorem dX8_hasStretch_4 : decode cX8_hasStretch 4 = .ok (.iload_n 2, 1) := by decide +kernel
theorem dX8_hasStretch_5 : decode cX8_hasStretch 5 = .ok (.ifCond .lt 17, 3) := by decide +kernel
theorem dX8_hasStretch_8 : decode cX8_hasStretch 8 = .ok (.iload_n 1, 1) := by decide +kernel
theorem dX8_hasStretch_9 : decode cX8_hasStretch 9 = .ok (.aload_n 0, 1) := by decide +kernel
theorem dX8_hasStretch_10 : decode cX8_hasStretch 10 = .ok (.getfield 46, 3) := by decide +kernel
theorem dX8_hasStretch_13 : decode cX8_hasStretch 13 = .ok (.iload_n 2, 1) := by decide +kernel
theorem dX8_hasStretch_14 : decode cX8_hasStretch 14 = .ok (.isub, 1) := by decide +kernel
theorem dX8_hasStretch_15 : decode cX8_hasStretch 15 = .ok (.if_icmp .gt 7, 3) := by decide +kernel
theorem dX8_hasStretch_18 : decode cX8_hasStretch 18 = .ok (.iconst 1, 1) := by decide +kernel
theorem dX8_hasStretch_19 : decode cX8_hasStretch 19 = .ok (.goto 4, 3) := by decide +kernel
theorem dX8_hasStretch_22 : decode cX8_hasStretch 22 = .ok (.iconst 0, 1) := by decide +kernel
theorem dX8_hasStretch_23 : decode cX8_hasStretch 23 = .ok (.ireturn, 1) := by decide +kernel
theorem dX8_heaviness_0 : decode cX8_heaviness 0 = .ok (.aload_n 0, 1) := by decide +kernel
theorem dX8_heaviness_1 : decode cX8_heaviness 1 = .ok (.getfield 23, 3) := by decide +kernel
theorem dX8_heaviness_4 : decode cX8_heaviness 4 = .ok (.iconst 1, 1) := by decide +kernel
theorem dX8_heaviness_5 : decode cX8_heaviness 5 = .ok (.iadd, 1) := by decide +kernel
theorem dX8_heaviness_6 : decode cX8_heaviness 6 = .ok (.istore_n 1, 1) := by decide +kernel
theorem dX8_heaviness_7 : decode cX8_heaviness 7 = .ok (.aload_n 0, 1) := by decide +kernel
theorem dX8_heaviness_8 : decode cX8_heaviness 8 = .ok (.getfield 31, 3) := by decide +kernel
theorem dX8_heaviness_11 : decode cX8_heaviness 11 = .ok (.tableswitch 62 1 3 #[25, 35, 56], 25) := by decide +kernel
theorem dX8_heaviness_36 : decode cX8_heaviness 36 = .ok (.iload_n 1, 1) := by decide +kernel
theorem dX8_heaviness_37 : decode cX8_heaviness 37 = .ok (.bipush 10, 2) := by decide +kernel
theorem dX8_heaviness_39 : decode cX8_heaviness 39 = .ok (.aload_n 0, 1) := by decide +kernel
theorem dX8_heaviness_40 : decode cX8_heaviness 40 = .ok (.getfield 41, 3) := by decide +kernel
theorem dX8_heaviness_43 : decode cX8_heaviness 43 = .ok (.imul, 1) := by decide +kernel
theorem dX8_heaviness_44 : decode cX8_heaviness 44 = .ok (.iadd, 1) := by decide +kernel
theorem dX8_heaviness_45 : decode cX8_heaviness 45 = .ok (.ireturn, 1) := by decide +kernel
theorem dX8_heaviness_46 : decode cX8_heaviness 46 = .ok (.iconst 2, 1) := by decide +kernel
theorem dX8_heaviness_47 : decode cX8_heaviness 47 = .ok (.iload_n 1, 1) := by decide +kernel
theorem dX8_heaviness_48 : decode cX8_heaviness 48 = .ok (.imul, 1) := by decide +kernel
theorem dX8_heaviness_49 : decode cX8_heaviness 49 = .ok (.aload_n 0, 1) := by decide +kernel
theorem dX8_heaviness_50 : decode cX8_heaviness 50 = .ok (.getfield 45, 3) := by decide +kernel
theorem dX8_heaviness_53 : decode cX8_heaviness 53 = .ok (.iconst (-1), 1) := by decide +kernel
theorem dX8_heaviness_54 : decode cX8_heaviness 54 = .ok (.if_icmp .ne 7, 3) := by decide +kernel
theorem dX8_heaviness_57 : decode cX8_heaviness 57 = .ok (.iconst 0, 1) := by decide +kernel
theorem dX8_heaviness_58 : decode cX8_heaviness 58 = .ok (.goto 7, 3) := by decide +kernel
theorem dX8_heaviness_61 : decode cX8_heaviness 61 = .ok (.aload_n 0, 1) := by decide +kernel
theorem dX8_heaviness_62 : decode cX8_heaviness 62 = .ok (.getfield 45, 3) := by decide +kernel
theorem dX8_heaviness_65 : decode cX8_heaviness 65 = .ok (.iadd, 1) := by decide +kernel
theorem dX8_heaviness_66 : decode cX8_heaviness 66 = .ok (.ireturn, 1) := by decide +kernel
theorem dX8_heaviness_67 : decode cX8_heaviness 67 = .ok (.iload_n 1, 1) := by decide +kernel
theorem dX8_heaviness_68 : decode cX8_heaviness 68 = .ok (.sipush 300, 3) := by decide +kernel
theorem dX8_heaviness_71 : decode cX8_heaviness 71 = .ok (.iadd, 1) := by decide +kernel
theorem dX8_heaviness_72 : decode cX8_heaviness 72 = .ok (.ireturn, 1) := by decide +kernel
theorem dX8_heaviness_73 : decode cX8_heaviness 73 = .ok (.iload_n 1, 1) := by decide +kernel
theorem dX8_heaviness_74 : decode cX8_heaviness 74 = .ok (.ireturn, 1) := by decide +kernel
theorem dX8_throwFailure_0 : decode cX8_throwFailure 0 = .ok (.aload_n 0, 1) := by decide +kernel
theorem dX8_throwFailure_1 : decode cX8_throwFailure 1 = .ok (.getfield 31, 3) := by decide +kernel
theorem dX8_throwFailure_4 : decode cX8_throwFailure 4 = .ok (.ifCond .eq 13, 3) := by decide +kernel
theorem dX8_throwFailure_7 : decode cX8_throwFailure 7 = .ok (.new 72, 3) := by decide +kernel
theorem dX8_throwFailure_10 : decode cX8_throwFailure 10 = .ok (.dup, 1) := by decide +kernel
theorem dX8_throwFailure_11 : decode cX8_throwFailure 11 = .ok (.ldc 74, 2) := by decide +kernel
theorem dX8_throwFailure_13 : decode cX8_throwFailure 13 = .ok (.invokespecial 76, 3) := by decide +kernel
theorem dX8_throwFailure_16 : decode cX8_throwFailure 16 = .ok (.athrow, 1) := by decide +kernel
theorem dX8_throwFailure_17 : decode cX8_throwFailure 17 = .ok (.return_, 1) := by decide +kernel
theorem dX9_init_0 : decode cX9_init 0 = .ok (.aload_n 0, 1) := by decide +kernel
theorem dX9_init_1 : decode cX9_init 1 = .ok (.invokespecial 3, 3) := by decide +kernel
theorem dX9_init_4 : decode cX9_init 4 = .ok (.aload_n 0, 1) := by decide +kernel
theorem dX9_init_5 : decode cX9_init 5 = .ok (.bipush 16, 2) := by decide +kernel
theorem dX9_init_7 : decode cX9_init 7 = .ok (.newarray .int, 2) := by decide +kernel
theorem dX9_init_9 : decode cX9_init 9 = .ok (.putfield 9, 3) := by decide +kernel
theorem dX9_init_12 : decode cX9_init 12 = .ok (.aload_n 0, 1) := by decide +kernel
theorem dX9_init_13 : decode cX9_init 13 = .ok (.bipush 16, 2) := by decide +kernel
theorem dX9_init_15 : decode cX9_init 15 = .ok (.newarray .int, 2) := by decide +kernel
theorem dX9_init_17 : decode cX9_init 17 = .ok (.putfield 15, 3) := by decide +kernel
theorem dX9_init_20 : decode cX9_init 20 = .ok (.aload_n 0, 1) := by decide +kernel
theorem dX9_init_21 : decode cX9_init 21 = .ok (.bipush 16, 2) := by decide +kernel
theorem dX9_init_23 : decode cX9_init 23 = .ok (.newarray .int, 2) := by decide +kernel
theorem dX9_init_25 : decode cX9_init 25 = .ok (.putfield 18, 3) := by decide +kernel
theorem dX9_init_28 : decode cX9_init 28 = .ok (.aload_n 0, 1) := by decide +kernel
theorem dX9_init_29 : decode cX9_init 29 = .ok (.aload_n 1, 1) := by decide +kernel
theorem dX9_init_30 : decode cX9_init 30 = .ok (.putfield 21, 3) := by decide +kernel
theorem dX9_init_33 : decode cX9_init 33 = .ok (.return_, 1) := by decide +kernel
theorem dX9_begin_0 : decode cX9_begin 0 = .ok (.aload_n 0, 1) := by decide +kernel
theorem dX9_begin_1 : decode cX9_begin 1 = .ok (.getfield 9, 3) := by decide +kernel
theorem dX9_begin_4 : decode cX9_begin 4 = .ok (.iconst 0, 1) := by decide +kernel
theorem dX9_begin_5 : decode cX9_begin 5 = .ok (.invokestatic 25, 3) := by decide +kernel
theorem dX9_begin_8 : decode cX9_begin 8 = .ok (.aload_n 0, 1) := by decide +kernel
theorem dX9_begin_9 : decode cX9_begin 9 = .ok (.getfield 15, 3) := by decide +kernel
theorem dX9_begin_12 : decode cX9_begin 12 = .ok (.iconst 0, 1) := by decide +kernel
theorem dX9_begin_13 : decode cX9_begin 13 = .ok (.invokestatic 25, 3) := by decide +kernel
theorem dX9_begin_16 : decode cX9_begin 16 = .ok (.aload_n 0, 1) := by decide +kernel
theorem dX9_begin_17 : decode cX9_begin 17 = .ok (.getfield 18, 3) := by decide +kernel
theorem dX9_begin_20 : decode cX9_begin 20 = .ok (.iconst 0, 1) := by decide +kernel
theorem dX9_begin_21 : decode cX9_begin 21 = .ok (.invokestatic 25, 3) := by decide +kernel
theorem dX9_begin_24 : decode cX9_begin 24 = .ok (.return_, 1) := by decide +kernel
theorem dX9_openTick_0 : decode cX9_openTick 0 = .ok (.aload_n 0, 1) := by decide +kernel
theorem dX9_openTick_1 : decode cX9_openTick 1 = .ok (.getfield 18, 3) := by decide +kernel
theorem dX9_openTick_4 : decode cX9_openTick 4 = .ok (.iconst 0, 1) := by decide +kernel
theorem dX9_openTick_5 : decode cX9_openTick 5 = .ok (.invokestatic 25, 3) := by decide +kernel
theorem dX9_openTick_8 : decode cX9_openTick 8 = .ok (.return_, 1) := by decide +kernel
theorem dX9_holdsUp_0 : decode cX9_holdsUp 0 = .ok (.iload_n 1, 1) := by decide +kernel
theorem dX9_holdsUp_1 : decode cX9_holdsUp 1 = .ok (.istore_n 3, 1) := by decide +kernel
theorem dX9_holdsUp_2 : decode cX9_holdsUp 2 = .ok (.iconst 0, 1) := by decide +kernel
theorem dX9_holdsUp_3 : decode cX9_holdsUp 3 = .ok (.istore 4, 2) := by decide +kernel
theorem dX9_holdsUp_5 : decode cX9_holdsUp 5 = .ok (.iload 4, 2) := by decide +kernel
theorem dX9_holdsUp_7 : decode cX9_holdsUp 7 = .ok (.iconst 4, 1) := by decide +kernel
theorem dX9_holdsUp_8 : decode cX9_holdsUp 8 = .ok (.if_icmp .ge 73, 3) := by decide +kernel
theorem dX9_holdsUp_11 : decode cX9_holdsUp 11 = .ok (.iload_n 3, 1) := by decide +kernel
theorem dX9_holdsUp_12 : decode cX9_holdsUp 12 = .ok (.iload_n 2, 1) := by decide +kernel
theorem dX9_holdsUp_13 : decode cX9_holdsUp 13 = .ok (.if_icmp .eq 68, 3) := by decide +kernel
theorem dX9_holdsUp_16 : decode cX9_holdsUp 16 = .ok (.aload_n 0, 1) := by decide +kernel
theorem dX9_holdsUp_17 : decode cX9_holdsUp 17 = .ok (.getfield 21, 3) := by decide +kernel
theorem dX9_holdsUp_20 : decode cX9_holdsUp 20 = .ok (.iload_n 3, 1) := by decide +kernel
theorem dX9_holdsUp_21 : decode cX9_holdsUp 21 = .ok (.iload_n 2, 1) := by decide +kernel
theorem dX9_holdsUp_22 : decode cX9_holdsUp 22 = .ok (.invokevirtual 31, 3) := by decide +kernel
theorem dX9_holdsUp_25 : decode cX9_holdsUp 25 = .ok (.istore 5, 2) := by decide +kernel
theorem dX9_holdsUp_27 : decode cX9_holdsUp 27 = .ok (.aload_n 0, 1) := by decide +kernel
theorem dX9_holdsUp_28 : decode cX9_holdsUp 28 = .ok (.getfield 21, 3) := by decide +kernel
theorem dX9_holdsUp_31 : decode cX9_holdsUp 31 = .ok (.iload_n 3, 1) := by decide +kernel
theorem dX9_holdsUp_32 : decode cX9_holdsUp 32 = .ok (.iload 5, 2) := by decide +kernel
theorem dX9_holdsUp_34 : decode cX9_holdsUp 34 = .ok (.invokevirtual 37, 3) := by decide +kernel
theorem dX9_holdsUp_37 : decode cX9_holdsUp 37 = .ok (.istore 6, 2) := by decide +kernel
theorem dX9_holdsUp_39 : decode cX9_holdsUp 39 = .ok (.aload_n 0, 1) := by decide +kernel
theorem dX9_holdsUp_40 : decode cX9_holdsUp 40 = .ok (.getfield 18, 3) := by decide +kernel
theorem dX9_holdsUp_43 : decode cX9_holdsUp 43 = .ok (.iload 6, 2) := by decide +kernel
theorem dX9_holdsUp_45 : decode cX9_holdsUp 45 = .ok (.iaload, 1) := by decide +kernel
theorem dX9_holdsUp_46 : decode cX9_holdsUp 46 = .ok (.aload_n 0, 1) := by decide +kernel
theorem dX9_holdsUp_47 : decode cX9_holdsUp 47 = .ok (.getfield 21, 3) := by decide +kernel
theorem dX9_holdsUp_50 : decode cX9_holdsUp 50 = .ok (.getfield 40, 3) := by decide +kernel
theorem dX9_holdsUp_53 : decode cX9_holdsUp 53 = .ok (.iload 6, 2) := by decide +kernel
theorem dX9_holdsUp_55 : decode cX9_holdsUp 55 = .ok (.iaload, 1) := by decide +kernel
theorem dX9_holdsUp_56 : decode cX9_holdsUp 56 = .ok (.if_icmp .lt 16, 3) := by decide +kernel
theorem dX9_holdsUp_59 : decode cX9_holdsUp 59 = .ok (.aload_n 0, 1) := by decide +kernel
theorem dX9_holdsUp_60 : decode cX9_holdsUp 60 = .ok (.getfield 15, 3) := by decide +kernel
theorem dX9_holdsUp_63 : decode cX9_holdsUp 63 = .ok (.iload 6, 2) := by decide +kernel
theorem dX9_holdsUp_65 : decode cX9_holdsUp 65 = .ok (.dup2, 1) := by decide +kernel
theorem dX9_holdsUp_66 : decode cX9_holdsUp 66 = .ok (.iaload, 1) := by decide +kernel
theorem dX9_holdsUp_67 : decode cX9_holdsUp 67 = .ok (.iconst 1, 1) := by decide +kernel
theorem dX9_holdsUp_68 : decode cX9_holdsUp 68 = .ok (.iadd, 1) := by decide +kernel
theorem dX9_holdsUp_69 : decode cX9_holdsUp 69 = .ok (.iastore, 1) := by decide +kernel
theorem dX9_holdsUp_70 : decode cX9_holdsUp 70 = .ok (.iconst 1, 1) := by decide +kernel
theorem dX9_holdsUp_71 : decode cX9_holdsUp 71 = .ok (.ireturn, 1) := by decide +kernel
theorem dX9_holdsUp_72 : decode cX9_holdsUp 72 = .ok (.iload 5, 2) := by decide +kernel
theorem dX9_holdsUp_74 : decode cX9_holdsUp 74 = .ok (.istore_n 3, 1) := by decide +kernel
theorem dX9_holdsUp_75 : decode cX9_holdsUp 75 = .ok (.iinc 4 1, 3) := by decide +kernel
theorem dX9_holdsUp_78 : decode cX9_holdsUp 78 = .ok (.goto (-73), 3) := by decide +kernel
theorem dX9_holdsUp_81 : decode cX9_holdsUp 81 = .ok (.iconst 0, 1) := by decide +kernel
theorem dX9_holdsUp_82 : decode cX9_holdsUp 82 = .ok (.ireturn, 1) := by decide +kernel
theorem dX9_carry_0 : decode cX9_carry 0 = .ok (.iload_n 1, 1) := by decide +kernel
theorem dX9_carry_1 : decode cX9_carry 1 = .ok (.istore_n 3, 1) := by decide +kernel
theorem dX9_carry_2 : decode cX9_carry 2 = .ok (.iconst 0, 1) := by decide +kernel
theorem dX9_carry_3 : decode cX9_carry 3 = .ok (.istore 4, 2) := by decide +kernel
theorem dX9_carry_5 : decode cX9_carry 5 = .ok (.iload 4, 2) := by decide +kernel
theorem dX9_carry_7 : decode cX9_carry 7 = .ok (.iconst 4, 1) := by decide +kernel
theorem dX9_carry_8 : decode cX9_carry 8 = .ok (.if_icmp .ge 62, 3) := by decide +kernel
theorem dX9_carry_11 : decode cX9_carry 11 = .ok (.iload_n 3, 1) := by decide +kernel
theorem dX9_carry_12 : decode cX9_carry 12 = .ok (.iload_n 2, 1) := by decide +kernel
theorem dX9_carry_13 : decode cX9_carry 13 = .ok (.if_icmp .eq 57, 3) := by decide +kernel
theorem dX9_carry_16 : decode cX9_carry 16 = .ok (.aload_n 0, 1) := by decide +kernel
theorem dX9_carry_17 : decode cX9_carry 17 = .ok (.getfield 21, 3) := by decide +kernel
theorem dX9_carry_20 : decode cX9_carry 20 = .ok (.iload_n 3, 1) := by decide +kernel
theorem dX9_carry_21 : decode cX9_carry 21 = .ok (.iload_n 2, 1) := by decide +kernel
theorem dX9_carry_22 : decode cX9_carry 22 = .ok (.invokevirtual 31, 3) := by decide +kernel
theorem dX9_carry_25 : decode cX9_carry 25 = .ok (.istore 5, 2) := by decide +kernel
theorem dX9_carry_27 : decode cX9_carry 27 = .ok (.aload_n 0, 1) := by decide +kernel
theorem dX9_carry_28 : decode cX9_carry 28 = .ok (.getfield 21, 3) := by decide +kernel
theorem dX9_carry_31 : decode cX9_carry 31 = .ok (.iload_n 3, 1) := by decide +kernel
theorem dX9_carry_32 : decode cX9_carry 32 = .ok (.iload 5, 2) := by decide +kernel
theorem dX9_carry_34 : decode cX9_carry 34 = .ok (.invokevirtual 37, 3) := by decide +kernel
theorem dX9_carry_37 : decode cX9_carry 37 = .ok (.istore 6, 2) := by decide +kernel
theorem dX9_carry_39 : decode cX9_carry 39 = .ok (.aload_n 0, 1) := by decide +kernel
theorem dX9_carry_40 : decode cX9_carry 40 = .ok (.getfield 18, 3) := by decide +kernel
theorem dX9_carry_43 : decode cX9_carry 43 = .ok (.iload 6, 2) := by decide +kernel
theorem dX9_carry_45 : decode cX9_carry 45 = .ok (.dup2, 1) := by decide +kernel
theorem dX9_carry_46 : decode cX9_carry 46 = .ok (.iaload, 1) := by decide +kernel
theorem dX9_carry_47 : decode cX9_carry 47 = .ok (.iconst 1, 1) := by decide +kernel
theorem dX9_carry_48 : decode cX9_carry 48 = .ok (.iadd, 1) := by decide +kernel
theorem dX9_carry_49 : decode cX9_carry 49 = .ok (.iastore, 1) := by decide +kernel
theorem dX9_carry_50 : decode cX9_carry 50 = .ok (.aload_n 0, 1) := by decide +kernel
theorem dX9_carry_51 : decode cX9_carry 51 = .ok (.getfield 9, 3) := by decide +kernel
theorem dX9_carry_54 : decode cX9_carry 54 = .ok (.iload 6, 2) := by decide +kernel
theorem dX9_carry_56 : decode cX9_carry 56 = .ok (.dup2, 1) := by decide +kernel
theorem dX9_carry_57 : decode cX9_carry 57 = .ok (.iaload, 1) := by decide +kernel
theorem dX9_carry_58 : decode cX9_carry 58 = .ok (.iconst 1, 1) := by decide +kernel
theorem dX9_carry_59 : decode cX9_carry 59 = .ok (.iadd, 1) := by decide +kernel
theorem dX9_carry_60 : decode cX9_carry 60 = .ok (.iastore, 1) := by decide +kernel
theorem dX9_carry_61 : decode cX9_carry 61 = .ok (.iload 5, 2) := by decide +kernel
theorem dX9_carry_63 : decode cX9_carry 63 = .ok (.istore_n 3, 1) := by decide +kernel
theorem dX9_carry_64 : decode cX9_carry 64 = .ok (.iinc 4 1, 3) := by decide +kernel
theorem dX9_carry_67 : decode cX9_carry 67 = .ok (.goto (-62), 3) := by decide +kernel
theorem dX9_carry_70 : decode cX9_carry 70 = .ok (.return_, 1) := by decide +kernel
theorem dX10_init_0 : decode cX10_init 0 = .ok (.aload_n 0, 1) := by decide +kernel
theorem dX10_init_1 : decode cX10_init 1 = .ok (.invokespecial 1, 3) := by decide +kernel
theorem dX10_init_4 : decode cX10_init 4 = .ok (.aload_n 0, 1) := by decide +kernel
theorem dX10_init_5 : decode cX10_init 5 = .ok (.aload_n 1, 1) := by decide +kernel
theorem dX10_init_6 : decode cX10_init 6 = .ok (.putfield 7, 3) := by decide +kernel
theorem dX10_init_9 : decode cX10_init 9 = .ok (.return_, 1) := by decide +kernel
theorem dX10_begin_0 : decode cX10_begin 0 = .ok (.aload_n 0, 1) := by decide +kernel
theorem dX10_begin_1 : decode cX10_begin 1 = .ok (.iload_n 1, 1) := by decide +kernel
theorem dX10_begin_2 : decode cX10_begin 2 = .ok (.putfield 13, 3) := by decide +kernel
theorem dX10_begin_5 : decode cX10_begin 5 = .ok (.aload_n 0, 1) := by decide +kernel
theorem dX10_begin_6 : decode cX10_begin 6 = .ok (.iconst 0, 1) := by decide +kernel
theorem dX10_begin_7 : decode cX10_begin 7 = .ok (.putfield 17, 3) := by decide +kernel
theorem dX10_begin_10 : decode cX10_begin 10 = .ok (.aload_n 0, 1) := by decide +kernel
theorem dX10_begin_11 : decode cX10_begin 11 = .ok (.iconst 0, 1) := by decide +kernel
theorem dX10_begin_12 : decode cX10_begin 12 = .ok (.putfield 20, 3) := by decide +kernel
theorem dX10_begin_15 : decode cX10_begin 15 = .ok (.aload_n 0, 1) := by decide +kernel
theorem dX10_begin_16 : decode cX10_begin 16 = .ok (.iconst 0, 1) := by decide +kernel
theorem dX10_begin_17 : decode cX10_begin 17 = .ok (.putfield 23, 3) := by decide +kernel
theorem dX10_begin_20 : decode cX10_begin 20 = .ok (.aload_n 0, 1) := by decide +kernel
theorem dX10_begin_21 : decode cX10_begin 21 = .ok (.iconst 0, 1) := by decide +kernel
theorem dX10_begin_22 : decode cX10_begin 22 = .ok (.putfield 26, 3) := by decide +kernel
theorem dX10_begin_25 : decode cX10_begin 25 = .ok (.aload_n 0, 1) := by decide +kernel
theorem dX10_begin_26 : decode cX10_begin 26 = .ok (.iconst 0, 1) := by decide +kernel
theorem dX10_begin_27 : decode cX10_begin 27 = .ok (.putfield 29, 3) := by decide +kernel
theorem dX10_begin_30 : decode cX10_begin 30 = .ok (.aload_n 0, 1) := by decide +kernel
theorem dX10_begin_31 : decode cX10_begin 31 = .ok (.iconst 0, 1) := by decide +kernel
theorem dX10_begin_32 : decode cX10_begin 32 = .ok (.putfield 32, 3) := by decide +kernel
theorem dX10_begin_35 : decode cX10_begin 35 = .ok (.return_, 1) := by decide +kernel
theorem dX10_left_0 : decode cX10_left 0 = .ok (.aload_n 0, 1) := by decide +kernel
theorem dX10_left_1 : decode cX10_left 1 = .ok (.getfield 32, 3) := by decide +kernel
theorem dX10_left_4 : decode cX10_left 4 = .ok (.ifCond .eq 7, 3) := by decide +kernel
theorem dX10_left_7 : decode cX10_left 7 = .ok (.iconst 0, 1) := by decide +kernel
theorem dX10_left_8 : decode cX10_left 8 = .ok (.goto 15, 3) := by decide +kernel
theorem dX10_left_11 : decode cX10_left 11 = .ok (.aload_n 0, 1) := by decide +kernel
theorem dX10_left_12 : decode cX10_left 12 = .ok (.getfield 7, 3) := by decide +kernel
theorem dX10_left_15 : decode cX10_left 15 = .ok (.getfield 36, 3) := by decide +kernel
theorem dX10_left_18 : decode cX10_left 18 = .ok (.aload_n 0, 1) := by decide +kernel
theorem dX10_left_19 : decode cX10_left 19 = .ok (.getfield 17, 3) := by decide +kernel
theorem dX10_left_22 : decode cX10_left 22 = .ok (.isub, 1) := by decide +kernel
theorem dX10_left_23 : decode cX10_left 23 = .ok (.ireturn, 1) := by decide +kernel
theorem dX10_isReady_0 : decode cX10_isReady 0 = .ok (.aload_n 0, 1) := by decide +kernel
theorem dX10_isReady_1 : decode cX10_isReady 1 = .ok (.getfield 20, 3) := by decide +kernel
theorem dX10_isReady_4 : decode cX10_isReady 4 = .ok (.ifCond .ne 14, 3) := by decide +kernel
theorem dX10_isReady_7 : decode cX10_isReady 7 = .ok (.aload_n 0, 1) := by decide +kernel
theorem dX10_isReady_8 : decode cX10_isReady 8 = .ok (.invokevirtual 41, 3) := by decide +kernel
theorem dX10_isReady_11 : decode cX10_isReady 11 = .ok (.ifCond .le 7, 3) := by decide +kernel
theorem dX10_isReady_14 : decode cX10_isReady 14 = .ok (.iconst 1, 1) := by decide +kernel
theorem dX10_isReady_15 : decode cX10_isReady 15 = .ok (.goto 4, 3) := by decide +kernel
theorem dX10_isReady_18 : decode cX10_isReady 18 = .ok (.iconst 0, 1) := by decide +kernel
theorem dX10_isReady_19 : decode cX10_isReady 19 = .ok (.ireturn, 1) := by decide +kernel
