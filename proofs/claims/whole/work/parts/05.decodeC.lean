theorem dX11_init_0 : decode cX11_init 0 = .ok (.aload_n 0, 1) := by decide +kernel
theorem dX11_init_1 : decode cX11_init 1 = .ok (.invokespecial 1, 3) := by decide +kernel
theorem dX11_init_4 : decode cX11_init 4 = .ok (.aload_n 0, 1) := by decide +kernel
theorem dX11_init_5 : decode cX11_init 5 = .ok (.new 7, 3) := by decide +kernel
theorem dX11_init_8 : decode cX11_init 8 = .ok (.dup, 1) := by decide +kernel
theorem dX11_init_9 : decode cX11_init 9 = .ok (.iconst 2, 1) := by decide +kernel
theorem dX11_init_10 : decode cX11_init 10 = .ok (.iload_n 1, 1) := by decide +kernel
theorem dX11_init_11 : decode cX11_init 11 = .ok (.iconst 3, 1) := by decide +kernel
theorem dX11_init_12 : decode cX11_init 12 = .ok (.invokestatic 9, 3) := by decide +kernel
theorem dX11_init_15 : decode cX11_init 15 = .ok (.iadd, 1) := by decide +kernel
theorem dX11_init_16 : decode cX11_init 16 = .ok (.iconst 1, 1) := by decide +kernel
theorem dX11_init_17 : decode cX11_init 17 = .ok (.iload_n 2, 1) := by decide +kernel
theorem dX11_init_18 : decode cX11_init 18 = .ok (.iconst 3, 1) := by decide +kernel
theorem dX11_init_19 : decode cX11_init 19 = .ok (.invokestatic 9, 3) := by decide +kernel
theorem dX11_init_22 : decode cX11_init 22 = .ok (.iadd, 1) := by decide +kernel
theorem dX11_init_23 : decode cX11_init 23 = .ok (.iconst 4, 1) := by decide +kernel
theorem dX11_init_24 : decode cX11_init 24 = .ok (.iload_n 3, 1) := by decide +kernel
theorem dX11_init_25 : decode cX11_init 25 = .ok (.bipush 9, 2) := by decide +kernel
theorem dX11_init_27 : decode cX11_init 27 = .ok (.invokestatic 9, 3) := by decide +kernel
theorem dX11_init_30 : decode cX11_init 30 = .ok (.iadd, 1) := by decide +kernel
theorem dX11_init_31 : decode cX11_init 31 = .ok (.invokespecial 15, 3) := by decide +kernel
theorem dX11_init_34 : decode cX11_init 34 = .ok (.putfield 18, 3) := by decide +kernel
theorem dX11_init_37 : decode cX11_init 37 = .ok (.bipush 10, 2) := by decide +kernel
theorem dX11_init_39 : decode cX11_init 39 = .ok (.anewarray 24, 3) := by decide +kernel
theorem dX11_init_42 : decode cX11_init 42 = .ok (.astore 4, 2) := by decide +kernel
theorem dX11_init_44 : decode cX11_init 44 = .ok (.iconst 0, 1) := by decide +kernel
theorem dX11_init_45 : decode cX11_init 45 = .ok (.istore 5, 2) := by decide +kernel
theorem dX11_init_47 : decode cX11_init 47 = .ok (.iload 5, 2) := by decide +kernel
theorem dX11_init_49 : decode cX11_init 49 = .ok (.bipush 10, 2) := by decide +kernel
theorem dX11_init_51 : decode cX11_init 51 = .ok (.if_icmp .ge 21, 3) := by decide +kernel
theorem dX11_init_54 : decode cX11_init 54 = .ok (.aload 4, 2) := by decide +kernel
theorem dX11_init_56 : decode cX11_init 56 = .ok (.iload 5, 2) := by decide +kernel
theorem dX11_init_58 : decode cX11_init 58 = .ok (.new 24, 3) := by decide +kernel
theorem dX11_init_61 : decode cX11_init 61 = .ok (.dup, 1) := by decide +kernel
theorem dX11_init_62 : decode cX11_init 62 = .ok (.invokespecial 26, 3) := by decide +kernel
theorem dX11_init_65 : decode cX11_init 65 = .ok (.aastore, 1) := by decide +kernel
theorem dX11_init_66 : decode cX11_init 66 = .ok (.iinc 5 1, 3) := by decide +kernel
theorem dX11_init_69 : decode cX11_init 69 = .ok (.goto (-22), 3) := by decide +kernel
theorem dX11_init_72 : decode cX11_init 72 = .ok (.aload_n 0, 1) := by decide +kernel
theorem dX11_init_73 : decode cX11_init 73 = .ok (.new 27, 3) := by decide +kernel
theorem dX11_init_76 : decode cX11_init 76 = .ok (.dup, 1) := by decide +kernel
theorem dX11_init_77 : decode cX11_init 77 = .ok (.aload_n 0, 1) := by decide +kernel
theorem dX11_init_78 : decode cX11_init 78 = .ok (.getfield 18, 3) := by decide +kernel
theorem dX11_init_81 : decode cX11_init 81 = .ok (.aload 4, 2) := by decide +kernel
theorem dX11_init_83 : decode cX11_init 83 = .ok (.sipush 300, 3) := by decide +kernel
theorem dX11_init_86 : decode cX11_init 86 = .ok (.invokespecial 29, 3) := by decide +kernel
theorem dX11_init_89 : decode cX11_init 89 = .ok (.putfield 32, 3) := by decide +kernel
theorem dX11_init_92 : decode cX11_init 92 = .ok (.aload_n 0, 1) := by decide +kernel
theorem dX11_init_93 : decode cX11_init 93 = .ok (.new 27, 3) := by decide +kernel
theorem dX11_init_96 : decode cX11_init 96 = .ok (.dup, 1) := by decide +kernel
theorem dX11_init_97 : decode cX11_init 97 = .ok (.aload_n 0, 1) := by decide +kernel
theorem dX11_init_98 : decode cX11_init 98 = .ok (.getfield 18, 3) := by decide +kernel
theorem dX11_init_101 : decode cX11_init 101 = .ok (.aload 4, 2) := by decide +kernel
theorem dX11_init_103 : decode cX11_init 103 = .ok (.iconst 0, 1) := by decide +kernel
theorem dX11_init_104 : decode cX11_init 104 = .ok (.invokespecial 29, 3) := by decide +kernel
theorem dX11_init_107 : decode cX11_init 107 = .ok (.putfield 36, 3) := by decide +kernel
theorem dX11_init_110 : decode cX11_init 110 = .ok (.aload_n 0, 1) := by decide +kernel
theorem dX11_init_111 : decode cX11_init 111 = .ok (.bipush 8, 2) := by decide +kernel
theorem dX11_init_113 : decode cX11_init 113 = .ok (.anewarray 39, 3) := by decide +kernel
theorem dX11_init_116 : decode cX11_init 116 = .ok (.putfield 41, 3) := by decide +kernel
theorem dX11_init_119 : decode cX11_init 119 = .ok (.iconst 0, 1) := by decide +kernel
theorem dX11_init_120 : decode cX11_init 120 = .ok (.istore 5, 2) := by decide +kernel
theorem dX11_init_122 : decode cX11_init 122 = .ok (.iload 5, 2) := by decide +kernel
theorem dX11_init_124 : decode cX11_init 124 = .ok (.bipush 8, 2) := by decide +kernel
theorem dX11_init_126 : decode cX11_init 126 = .ok (.if_icmp .ge 23, 3) := by decide +kernel
theorem dX11_init_129 : decode cX11_init 129 = .ok (.aload_n 0, 1) := by decide +kernel
theorem dX11_init_130 : decode cX11_init 130 = .ok (.getfield 41, 3) := by decide +kernel
theorem dX11_init_133 : decode cX11_init 133 = .ok (.iload 5, 2) := by decide +kernel
theorem dX11_init_135 : decode cX11_init 135 = .ok (.new 39, 3) := by decide +kernel
theorem dX11_init_138 : decode cX11_init 138 = .ok (.dup, 1) := by decide +kernel
theorem dX11_init_139 : decode cX11_init 139 = .ok (.invokespecial 45, 3) := by decide +kernel
theorem dX11_init_142 : decode cX11_init 142 = .ok (.aastore, 1) := by decide +kernel
theorem dX11_init_143 : decode cX11_init 143 = .ok (.iinc 5 1, 3) := by decide +kernel
theorem dX11_init_146 : decode cX11_init 146 = .ok (.goto (-24), 3) := by decide +kernel
theorem dX11_init_149 : decode cX11_init 149 = .ok (.return_, 1) := by decide +kernel
theorem dX11_link_0 : decode cX11_link 0 = .ok (.aload_n 0, 1) := by decide +kernel
theorem dX11_link_1 : decode cX11_link 1 = .ok (.getfield 18, 3) := by decide +kernel
theorem dX11_link_4 : decode cX11_link 4 = .ok (.iload_n 1, 1) := by decide +kernel
theorem dX11_link_5 : decode cX11_link 5 = .ok (.iload_n 2, 1) := by decide +kernel
theorem dX11_link_6 : decode cX11_link 6 = .ok (.invokevirtual 46, 3) := by decide +kernel
theorem dX11_link_9 : decode cX11_link 9 = .ok (.ifCond .eq 23, 3) := by decide +kernel
theorem dX11_link_12 : decode cX11_link 12 = .ok (.iload_n 3, 1) := by decide +kernel
theorem dX11_link_13 : decode cX11_link 13 = .ok (.iconst 0, 1) := by decide +kernel
theorem dX11_link_14 : decode cX11_link 14 = .ok (.bipush 9, 2) := by decide +kernel
theorem dX11_link_16 : decode cX11_link 16 = .ok (.invokestatic 50, 3) := by decide +kernel
theorem dX11_link_19 : decode cX11_link 19 = .ok (.ifCond .eq 13, 3) := by decide +kernel
theorem dX11_link_22 : decode cX11_link 22 = .ok (.iload 4, 2) := by decide +kernel
theorem dX11_link_24 : decode cX11_link 24 = .ok (.iconst 1, 1) := by decide +kernel
theorem dX11_link_25 : decode cX11_link 25 = .ok (.iconst 4, 1) := by decide +kernel
theorem dX11_link_26 : decode cX11_link 26 = .ok (.invokestatic 50, 3) := by decide +kernel
theorem dX11_link_29 : decode cX11_link 29 = .ok (.ifCond .ne 5, 3) := by decide +kernel
theorem dX11_link_32 : decode cX11_link 32 = .ok (.iconst (-1), 1) := by decide +kernel
theorem dX11_link_33 : decode cX11_link 33 = .ok (.ireturn, 1) := by decide +kernel
theorem dX11_link_34 : decode cX11_link 34 = .ok (.aload_n 0, 1) := by decide +kernel
theorem dX11_link_35 : decode cX11_link 35 = .ok (.getfield 32, 3) := by decide +kernel
theorem dX11_link_38 : decode cX11_link 38 = .ok (.getfield 54, 3) := by decide +kernel
theorem dX11_link_41 : decode cX11_link 41 = .ok (.iconst 1, 1) := by decide +kernel
theorem dX11_link_42 : decode cX11_link 42 = .ok (.if_icmp .le 6, 3) := by decide +kernel
theorem dX11_link_45 : decode cX11_link 45 = .ok (.bipush (-3), 2) := by decide +kernel
theorem dX11_link_47 : decode cX11_link 47 = .ok (.ireturn, 1) := by decide +kernel
theorem dX11_link_48 : decode cX11_link 48 = .ok (.aload_n 0, 1) := by decide +kernel
theorem dX11_link_49 : decode cX11_link 49 = .ok (.getfield 18, 3) := by decide +kernel
theorem dX11_link_52 : decode cX11_link 52 = .ok (.getfield 58, 3) := by decide +kernel
theorem dX11_link_55 : decode cX11_link 55 = .ok (.aload_n 0, 1) := by decide +kernel
theorem dX11_link_56 : decode cX11_link 56 = .ok (.getfield 18, 3) := by decide +kernel
theorem dX11_link_59 : decode cX11_link 59 = .ok (.iload_n 1, 1) := by decide +kernel
theorem dX11_link_60 : decode cX11_link 60 = .ok (.iload_n 2, 1) := by decide +kernel
theorem dX11_link_61 : decode cX11_link 61 = .ok (.invokevirtual 62, 3) := by decide +kernel
theorem dX11_link_64 : decode cX11_link 64 = .ok (.iaload, 1) := by decide +kernel
theorem dX11_link_65 : decode cX11_link 65 = .ok (.istore 5, 2) := by decide +kernel
theorem dX11_link_67 : decode cX11_link 67 = .ok (.aload_n 0, 1) := by decide +kernel
theorem dX11_link_68 : decode cX11_link 68 = .ok (.getfield 18, 3) := by decide +kernel
theorem dX11_link_71 : decode cX11_link 71 = .ok (.iload_n 1, 1) := by decide +kernel
theorem dX11_link_72 : decode cX11_link 72 = .ok (.iload_n 2, 1) := by decide +kernel
theorem dX11_link_73 : decode cX11_link 73 = .ok (.iload_n 3, 1) := by decide +kernel
theorem dX11_link_74 : decode cX11_link 74 = .ok (.iload 4, 2) := by decide +kernel
theorem dX11_link_76 : decode cX11_link 76 = .ok (.invokevirtual 65, 3) := by decide +kernel
theorem dX11_link_79 : decode cX11_link 79 = .ok (.iload 5, 2) := by decide +kernel
theorem dX11_link_81 : decode cX11_link 81 = .ok (.ireturn, 1) := by decide +kernel
theorem dX11_far_0 : decode cX11_far 0 = .ok (.aload_n 0, 1) := by decide +kernel
theorem dX11_far_1 : decode cX11_far 1 = .ok (.getfield 18, 3) := by decide +kernel
theorem dX11_far_4 : decode cX11_far 4 = .ok (.iload_n 1, 1) := by decide +kernel
theorem dX11_far_5 : decode cX11_far 5 = .ok (.invokevirtual 69, 3) := by decide +kernel
theorem dX11_far_8 : decode cX11_far 8 = .ok (.ifCond .eq 14, 3) := by decide +kernel
theorem dX11_far_11 : decode cX11_far 11 = .ok (.aload_n 0, 1) := by decide +kernel
theorem dX11_far_12 : decode cX11_far 12 = .ok (.getfield 18, 3) := by decide +kernel
theorem dX11_far_15 : decode cX11_far 15 = .ok (.iload_n 2, 1) := by decide +kernel
theorem dX11_far_16 : decode cX11_far 16 = .ok (.invokevirtual 69, 3) := by decide +kernel
theorem dX11_far_19 : decode cX11_far 19 = .ok (.ifCond .ne 5, 3) := by decide +kernel
theorem dX11_far_22 : decode cX11_far 22 = .ok (.iconst (-1), 1) := by decide +kernel
theorem dX11_far_23 : decode cX11_far 23 = .ok (.ireturn, 1) := by decide +kernel
theorem dX11_far_24 : decode cX11_far 24 = .ok (.aload_n 0, 1) := by decide +kernel
theorem dX11_far_25 : decode cX11_far 25 = .ok (.getfield 18, 3) := by decide +kernel
theorem dX11_far_28 : decode cX11_far 28 = .ok (.iload_n 1, 1) := by decide +kernel
theorem dX11_far_29 : decode cX11_far 29 = .ok (.iload_n 2, 1) := by decide +kernel
theorem dX11_far_30 : decode cX11_far 30 = .ok (.invokevirtual 73, 3) := by decide +kernel
theorem dX11_far_33 : decode cX11_far 33 = .ok (.ifCond .eq 15, 3) := by decide +kernel
theorem dX11_far_36 : decode cX11_far 36 = .ok (.aload_n 0, 1) := by decide +kernel
theorem dX11_far_37 : decode cX11_far 37 = .ok (.getfield 18, 3) := by decide +kernel
theorem dX11_far_40 : decode cX11_far 40 = .ok (.iload_n 1, 1) := by decide +kernel
theorem dX11_far_41 : decode cX11_far 41 = .ok (.iload_n 2, 1) := by decide +kernel
theorem dX11_far_42 : decode cX11_far 42 = .ok (.invokevirtual 76, 3) := by decide +kernel
theorem dX11_far_45 : decode cX11_far 45 = .ok (.goto 5, 3) := by decide +kernel
theorem dX11_far_48 : decode cX11_far 48 = .ok (.bipush (-2), 2) := by decide +kernel
theorem dX11_far_50 : decode cX11_far 50 = .ok (.ireturn, 1) := by decide +kernel
theorem dX11_way_0 : decode cX11_way 0 = .ok (.aload_n 0, 1) := by decide +kernel
theorem dX11_way_1 : decode cX11_way 1 = .ok (.getfield 18, 3) := by decide +kernel
theorem dX11_way_4 : decode cX11_way 4 = .ok (.iload_n 1, 1) := by decide +kernel
theorem dX11_way_5 : decode cX11_way 5 = .ok (.invokevirtual 69, 3) := by decide +kernel
theorem dX11_way_8 : decode cX11_way 8 = .ok (.ifCond .eq 18, 3) := by decide +kernel
theorem dX11_way_11 : decode cX11_way 11 = .ok (.aload_n 0, 1) := by decide +kernel
theorem dX11_way_12 : decode cX11_way 12 = .ok (.getfield 18, 3) := by decide +kernel
theorem dX11_way_15 : decode cX11_way 15 = .ok (.iload_n 2, 1) := by decide +kernel
theorem dX11_way_16 : decode cX11_way 16 = .ok (.invokevirtual 69, 3) := by decide +kernel
theorem dX11_way_19 : decode cX11_way 19 = .ok (.ifCond .eq 7, 3) := by decide +kernel
theorem dX11_way_22 : decode cX11_way 22 = .ok (.iload_n 3, 1) := by decide +kernel
theorem dX11_way_23 : decode cX11_way 23 = .ok (.ifCond .ge 5, 3) := by decide +kernel
theorem dX11_way_26 : decode cX11_way 26 = .ok (.iconst (-1), 1) := by decide +kernel
theorem dX11_way_27 : decode cX11_way 27 = .ok (.ireturn, 1) := by decide +kernel
theorem dX11_way_28 : decode cX11_way 28 = .ok (.aload_n 0, 1) := by decide +kernel
theorem dX11_way_29 : decode cX11_way 29 = .ok (.getfield 18, 3) := by decide +kernel
theorem dX11_way_32 : decode cX11_way 32 = .ok (.iload_n 1, 1) := by decide +kernel
theorem dX11_way_33 : decode cX11_way 33 = .ok (.iload_n 2, 1) := by decide +kernel
theorem dX11_way_34 : decode cX11_way 34 = .ok (.invokevirtual 73, 3) := by decide +kernel
theorem dX11_way_37 : decode cX11_way 37 = .ok (.ifCond .ne 6, 3) := by decide +kernel
theorem dX11_way_40 : decode cX11_way 40 = .ok (.bipush (-2), 2) := by decide +kernel
theorem dX11_way_42 : decode cX11_way 42 = .ok (.ireturn, 1) := by decide +kernel
theorem dX11_way_43 : decode cX11_way 43 = .ok (.iload_n 3, 1) := by decide +kernel
theorem dX11_way_44 : decode cX11_way 44 = .ok (.aload_n 0, 1) := by decide +kernel
theorem dX11_way_45 : decode cX11_way 45 = .ok (.getfield 18, 3) := by decide +kernel
theorem dX11_way_48 : decode cX11_way 48 = .ok (.getfield 79, 3) := by decide +kernel
theorem dX11_way_51 : decode cX11_way 51 = .ok (.if_icmp .lt 5, 3) := by decide +kernel
theorem dX11_way_54 : decode cX11_way 54 = .ok (.iconst (-1), 1) := by decide +kernel
theorem dX11_way_55 : decode cX11_way 55 = .ok (.ireturn, 1) := by decide +kernel
theorem dX11_way_56 : decode cX11_way 56 = .ok (.iload_n 1, 1) := by decide +kernel
theorem dX11_way_57 : decode cX11_way 57 = .ok (.istore 4, 2) := by decide +kernel
theorem dX11_way_59 : decode cX11_way 59 = .ok (.iconst 0, 1) := by decide +kernel
theorem dX11_way_60 : decode cX11_way 60 = .ok (.istore 5, 2) := by decide +kernel
theorem dX11_way_62 : decode cX11_way 62 = .ok (.iload 5, 2) := by decide +kernel
theorem dX11_way_64 : decode cX11_way 64 = .ok (.iload_n 3, 1) := by decide +kernel
theorem dX11_way_65 : decode cX11_way 65 = .ok (.if_icmp .ge 29, 3) := by decide +kernel
theorem dX11_way_68 : decode cX11_way 68 = .ok (.iload 4, 2) := by decide +kernel
theorem dX11_way_70 : decode cX11_way 70 = .ok (.iload_n 2, 1) := by decide +kernel
theorem dX11_way_71 : decode cX11_way 71 = .ok (.if_icmp .ne 5, 3) := by decide +kernel
theorem dX11_way_74 : decode cX11_way 74 = .ok (.iconst (-1), 1) := by decide +kernel
theorem dX11_way_75 : decode cX11_way 75 = .ok (.ireturn, 1) := by decide +kernel
theorem dX11_way_76 : decode cX11_way 76 = .ok (.aload_n 0, 1) := by decide +kernel
theorem dX11_way_77 : decode cX11_way 77 = .ok (.getfield 18, 3) := by decide +kernel
theorem dX11_way_80 : decode cX11_way 80 = .ok (.iload 4, 2) := by decide +kernel
theorem dX11_way_82 : decode cX11_way 82 = .ok (.iload_n 2, 1) := by decide +kernel
theorem dX11_way_83 : decode cX11_way 83 = .ok (.invokevirtual 82, 3) := by decide +kernel
theorem dX11_way_86 : decode cX11_way 86 = .ok (.istore 4, 2) := by decide +kernel
theorem dX11_way_88 : decode cX11_way 88 = .ok (.iinc 5 1, 3) := by decide +kernel
theorem dX11_way_91 : decode cX11_way 91 = .ok (.goto (-29), 3) := by decide +kernel
theorem dX11_way_94 : decode cX11_way 94 = .ok (.iload 4, 2) := by decide +kernel
theorem dX11_way_96 : decode cX11_way 96 = .ok (.ireturn, 1) := by decide +kernel
theorem dX11_page_0 : decode cX11_page 0 = .ok (.iload_n 1, 1) := by decide +kernel
theorem dX11_page_1 : decode cX11_page 1 = .ok (.iconst 0, 1) := by decide +kernel
theorem dX11_page_2 : decode cX11_page 2 = .ok (.iconst 3, 1) := by decide +kernel
theorem dX11_page_3 : decode cX11_page 3 = .ok (.invokestatic 50, 3) := by decide +kernel
theorem dX11_page_6 : decode cX11_page 6 = .ok (.ifCond .ne 5, 3) := by decide +kernel
theorem dX11_page_9 : decode cX11_page 9 = .ok (.iconst (-1), 1) := by decide +kernel
theorem dX11_page_10 : decode cX11_page 10 = .ok (.ireturn, 1) := by decide +kernel
theorem dX11_page_11 : decode cX11_page 11 = .ok (.aload_n 0, 1) := by decide +kernel
theorem dX11_page_12 : decode cX11_page 12 = .ok (.getfield 32, 3) := by decide +kernel
theorem dX11_page_15 : decode cX11_page 15 = .ok (.getfield 85, 3) := by decide +kernel
theorem dX11_page_18 : decode cX11_page 18 = .ok (.bipush 20, 2) := by decide +kernel
theorem dX11_page_20 : decode cX11_page 20 = .ok (.if_icmp .ne 8, 3) := by decide +kernel
theorem dX11_page_23 : decode cX11_page 23 = .ok (.bipush (-2), 2) := by decide +kernel
theorem dX11_page_25 : decode cX11_page 25 = .ok (.goto 11, 3) := by decide +kernel
theorem dX11_page_28 : decode cX11_page 28 = .ok (.aload_n 0, 1) := by decide +kernel
theorem dX11_page_29 : decode cX11_page 29 = .ok (.getfield 32, 3) := by decide +kernel
theorem dX11_page_32 : decode cX11_page 32 = .ok (.iload_n 1, 1) := by decide +kernel
theorem dX11_page_33 : decode cX11_page 33 = .ok (.invokevirtual 88, 3) := by decide +kernel
theorem dX11_page_36 : decode cX11_page 36 = .ok (.ireturn, 1) := by decide +kernel
theorem dX11_thread_0 : decode cX11_thread 0 = .ok (.aload_n 0, 1) := by decide +kernel
theorem dX11_thread_1 : decode cX11_thread 1 = .ok (.getfield 18, 3) := by decide +kernel
theorem dX11_thread_4 : decode cX11_thread 4 = .ok (.iload_n 1, 1) := by decide +kernel
theorem dX11_thread_5 : decode cX11_thread 5 = .ok (.invokevirtual 69, 3) := by decide +kernel
theorem dX11_thread_8 : decode cX11_thread 8 = .ok (.ifCond .ne 5, 3) := by decide +kernel
theorem dX11_thread_11 : decode cX11_thread 11 = .ok (.iconst (-1), 1) := by decide +kernel
theorem dX11_thread_12 : decode cX11_thread 12 = .ok (.ireturn, 1) := by decide +kernel
theorem dX11_thread_13 : decode cX11_thread 13 = .ok (.aload_n 0, 1) := by decide +kernel
theorem dX11_thread_14 : decode cX11_thread 14 = .ok (.getfield 32, 3) := by decide +kernel
theorem dX11_thread_17 : decode cX11_thread 17 = .ok (.getfield 92, 3) := by decide +kernel
theorem dX11_thread_20 : decode cX11_thread 20 = .ok (.bipush 10, 2) := by decide +kernel
theorem dX11_thread_22 : decode cX11_thread 22 = .ok (.if_icmp .ne 8, 3) := by decide +kernel
theorem dX11_thread_25 : decode cX11_thread 25 = .ok (.bipush (-2), 2) := by decide +kernel
theorem dX11_thread_27 : decode cX11_thread 27 = .ok (.goto 11, 3) := by decide +kernel
theorem dX11_thread_30 : decode cX11_thread 30 = .ok (.aload_n 0, 1) := by decide +kernel
theorem dX11_thread_31 : decode cX11_thread 31 = .ok (.getfield 32, 3) := by decide +kernel
theorem dX11_thread_34 : decode cX11_thread 34 = .ok (.iload_n 1, 1) := by decide +kernel
theorem dX11_thread_35 : decode cX11_thread 35 = .ok (.invokevirtual 95, 3) := by decide +kernel
theorem dX11_thread_38 : decode cX11_thread 38 = .ok (.ireturn, 1) := by decide +kernel
theorem dX11_access_0 : decode cX11_access 0 = .ok (.aload_n 0, 1) := by decide +kernel
theorem dX11_access_1 : decode cX11_access 1 = .ok (.getfield 32, 3) := by decide +kernel
theorem dX11_access_4 : decode cX11_access 4 = .ok (.iload_n 1, 1) := by decide +kernel
theorem dX11_access_5 : decode cX11_access 5 = .ok (.invokevirtual 98, 3) := by decide +kernel
theorem dX11_access_8 : decode cX11_access 8 = .ok (.ifCond .eq 23, 3) := by decide +kernel
theorem dX11_access_11 : decode cX11_access 11 = .ok (.iload_n 2, 1) := by decide +kernel
theorem dX11_access_12 : decode cX11_access 12 = .ok (.iconst 0, 1) := by decide +kernel
theorem dX11_access_13 : decode cX11_access 13 = .ok (.bipush 30, 2) := by decide +kernel
theorem dX11_access_15 : decode cX11_access 15 = .ok (.invokestatic 50, 3) := by decide +kernel
theorem dX11_access_18 : decode cX11_access 18 = .ok (.ifCond .eq 13, 3) := by decide +kernel
theorem dX11_access_21 : decode cX11_access 21 = .ok (.iload_n 3, 1) := by decide +kernel
theorem dX11_access_22 : decode cX11_access 22 = .ok (.iconst 0, 1) := by decide +kernel
theorem dX11_access_23 : decode cX11_access 23 = .ok (.bipush 7, 2) := by decide +kernel
theorem dX11_access_25 : decode cX11_access 25 = .ok (.invokestatic 50, 3) := by decide +kernel
theorem dX11_access_28 : decode cX11_access 28 = .ok (.ifCond .ne 5, 3) := by decide +kernel
theorem dX11_access_31 : decode cX11_access 31 = .ok (.iconst (-1), 1) := by decide +kernel
theorem dX11_access_32 : decode cX11_access 32 = .ok (.ireturn, 1) := by decide +kernel
theorem dX11_access_33 : decode cX11_access 33 = .ok (.aload_n 0, 1) := by decide +kernel
theorem dX11_access_34 : decode cX11_access 34 = .ok (.getfield 32, 3) := by decide +kernel
theorem dX11_access_37 : decode cX11_access 37 = .ok (.getfield 101, 3) := by decide +kernel
theorem dX11_access_40 : decode cX11_access 40 = .ok (.iload_n 1, 1) := by decide +kernel
theorem dX11_access_41 : decode cX11_access 41 = .ok (.aaload, 1) := by decide +kernel
theorem dX11_access_42 : decode cX11_access 42 = .ok (.astore 6, 2) := by decide +kernel
theorem dX11_access_44 : decode cX11_access 44 = .ok (.aload 6, 2) := by decide +kernel
theorem dX11_access_46 : decode cX11_access 46 = .ok (.getfield 105, 3) := by decide +kernel
theorem dX11_access_49 : decode cX11_access 49 = .ok (.ifCond .eq 5, 3) := by decide +kernel
theorem dX11_access_52 : decode cX11_access 52 = .ok (.iconst (-1), 1) := by decide +kernel
theorem dX11_access_53 : decode cX11_access 53 = .ok (.ireturn, 1) := by decide +kernel
theorem dX11_access_54 : decode cX11_access 54 = .ok (.aload 6, 2) := by decide +kernel
theorem dX11_access_56 : decode cX11_access 56 = .ok (.getfield 111, 3) := by decide +kernel
theorem dX11_access_59 : decode cX11_access 59 = .ok (.getfield 115, 3) := by decide +kernel
theorem dX11_access_62 : decode cX11_access 62 = .ok (.bipush 60, 2) := by decide +kernel
theorem dX11_access_64 : decode cX11_access 64 = .ok (.if_icmp .ne 6, 3) := by decide +kernel
theorem dX11_access_67 : decode cX11_access 67 = .ok (.bipush (-2), 2) := by decide +kernel
theorem dX11_access_69 : decode cX11_access 69 = .ok (.ireturn, 1) := by decide +kernel
theorem dX11_access_70 : decode cX11_access 70 = .ok (.aload 6, 2) := by decide +kernel
theorem dX11_access_72 : decode cX11_access 72 = .ok (.getfield 111, 3) := by decide +kernel
theorem dX11_access_75 : decode cX11_access 75 = .ok (.iload_n 2, 1) := by decide +kernel
theorem dX11_access_76 : decode cX11_access 76 = .ok (.iload_n 3, 1) := by decide +kernel
theorem dX11_access_77 : decode cX11_access 77 = .ok (.iload 4, 2) := by decide +kernel
theorem dX11_access_79 : decode cX11_access 79 = .ok (.iload 5, 2) := by decide +kernel
theorem dX11_access_81 : decode cX11_access 81 = .ok (.invokevirtual 118, 3) := by decide +kernel
theorem dX11_access_84 : decode cX11_access 84 = .ok (.ireturn, 1) := by decide +kernel
theorem dX11_rule_0 : decode cX11_rule 0 = .ok (.iload_n 1, 1) := by decide +kernel
theorem dX11_rule_1 : decode cX11_rule 1 = .ok (.iload_n 2, 1) := by decide +kernel
theorem dX11_rule_2 : decode cX11_rule 2 = .ok (.iload_n 3, 1) := by decide +kernel
theorem dX11_rule_3 : decode cX11_rule 3 = .ok (.invokestatic 122, 3) := by decide +kernel
theorem dX11_rule_6 : decode cX11_rule 6 = .ok (.ifCond .ne 5, 3) := by decide +kernel
theorem dX11_rule_9 : decode cX11_rule 9 = .ok (.iconst (-1), 1) := by decide +kernel
theorem dX11_rule_10 : decode cX11_rule 10 = .ok (.ireturn, 1) := by decide +kernel
theorem dX11_rule_11 : decode cX11_rule 11 = .ok (.aload_n 0, 1) := by decide +kernel
theorem dX11_rule_12 : decode cX11_rule 12 = .ok (.getfield 32, 3) := by decide +kernel
theorem dX11_rule_15 : decode cX11_rule 15 = .ok (.getfield 125, 3) := by decide +kernel
theorem dX11_rule_18 : decode cX11_rule 18 = .ok (.iload_n 1, 1) := by decide +kernel
theorem dX11_rule_19 : decode cX11_rule 19 = .ok (.iload_n 2, 1) := by decide +kernel
theorem dX11_rule_20 : decode cX11_rule 20 = .ok (.iload_n 3, 1) := by decide +kernel
theorem dX11_rule_21 : decode cX11_rule 21 = .ok (.invokevirtual 129, 3) := by decide +kernel
theorem dX11_rule_24 : decode cX11_rule 24 = .ok (.iconst 0, 1) := by decide +kernel
theorem dX11_rule_25 : decode cX11_rule 25 = .ok (.ireturn, 1) := by decide +kernel
theorem dX11_prices_0 : decode cX11_prices 0 = .ok (.iload_n 1, 1) := by decide +kernel
theorem dX11_prices_1 : decode cX11_prices 1 = .ok (.iconst 0, 1) := by decide +kernel
theorem dX11_prices_2 : decode cX11_prices 2 = .ok (.bipush 20, 2) := by decide +kernel
theorem dX11_prices_4 : decode cX11_prices 4 = .ok (.invokestatic 50, 3) := by decide +kernel
theorem dX11_prices_7 : decode cX11_prices 7 = .ok (.ifCond .eq 13, 3) := by decide +kernel
theorem dX11_prices_10 : decode cX11_prices 10 = .ok (.iload_n 2, 1) := by decide +kernel
theorem dX11_prices_11 : decode cX11_prices 11 = .ok (.iconst 0, 1) := by decide +kernel
theorem dX11_prices_12 : decode cX11_prices 12 = .ok (.bipush 50, 2) := by decide +kernel
theorem dX11_prices_14 : decode cX11_prices 14 = .ok (.invokestatic 50, 3) := by decide +kernel
theorem dX11_prices_17 : decode cX11_prices 17 = .ok (.ifCond .ne 5, 3) := by decide +kernel
theorem dX11_prices_20 : decode cX11_prices 20 = .ok (.iconst (-1), 1) := by decide +kernel
theorem dX11_prices_21 : decode cX11_prices 21 = .ok (.ireturn, 1) := by decide +kernel
theorem dX11_prices_22 : decode cX11_prices 22 = .ok (.aload_n 0, 1) := by decide +kernel
theorem dX11_prices_23 : decode cX11_prices 23 = .ok (.getfield 32, 3) := by decide +kernel
theorem dX11_prices_26 : decode cX11_prices 26 = .ok (.getfield 125, 3) := by decide +kernel
theorem dX11_prices_29 : decode cX11_prices 29 = .ok (.iload_n 1, 1) := by decide +kernel
theorem dX11_prices_30 : decode cX11_prices 30 = .ok (.iload_n 2, 1) := by decide +kernel
theorem dX11_prices_31 : decode cX11_prices 31 = .ok (.invokevirtual 134, 3) := by decide +kernel
theorem dX11_prices_34 : decode cX11_prices 34 = .ok (.iconst 0, 1) := by decide +kernel
theorem dX11_prices_35 : decode cX11_prices 35 = .ok (.ireturn, 1) := by decide +kernel
theorem dX11_place_0 : decode cX11_place 0 = .ok (.aload_n 0, 1) := by decide +kernel
theorem dX11_place_1 : decode cX11_place 1 = .ok (.getfield 32, 3) := by decide +kernel
theorem dX11_place_4 : decode cX11_place 4 = .ok (.iload_n 1, 1) := by decide +kernel
theorem dX11_place_5 : decode cX11_place 5 = .ok (.invokevirtual 138, 3) := by decide +kernel
theorem dX11_place_8 : decode cX11_place 8 = .ok (.ifCond .eq 14, 3) := by decide +kernel
theorem dX11_place_11 : decode cX11_place 11 = .ok (.aload_n 0, 1) := by decide +kernel
theorem dX11_place_12 : decode cX11_place 12 = .ok (.getfield 18, 3) := by decide +kernel
theorem dX11_place_15 : decode cX11_place 15 = .ok (.iload_n 2, 1) := by decide +kernel
theorem dX11_place_16 : decode cX11_place 16 = .ok (.invokevirtual 69, 3) := by decide +kernel
theorem dX11_place_19 : decode cX11_place 19 = .ok (.ifCond .ne 5, 3) := by decide +kernel
theorem dX11_place_22 : decode cX11_place 22 = .ok (.iconst (-1), 1) := by decide +kernel
theorem dX11_place_23 : decode cX11_place 23 = .ok (.ireturn, 1) := by decide +kernel
theorem dX11_place_24 : decode cX11_place 24 = .ok (.aload_n 0, 1) := by decide +kernel
theorem dX11_place_25 : decode cX11_place 25 = .ok (.getfield 32, 3) := by decide +kernel
theorem dX11_place_28 : decode cX11_place 28 = .ok (.getfield 141, 3) := by decide +kernel
theorem dX11_place_31 : decode cX11_place 31 = .ok (.iload_n 1, 1) := by decide +kernel
theorem dX11_place_32 : decode cX11_place 32 = .ok (.aaload, 1) := by decide +kernel
theorem dX11_place_33 : decode cX11_place 33 = .ok (.astore_n 3, 1) := by decide +kernel
theorem dX11_place_34 : decode cX11_place 34 = .ok (.aload_n 0, 1) := by decide +kernel
theorem dX11_place_35 : decode cX11_place 35 = .ok (.getfield 32, 3) := by decide +kernel
theorem dX11_place_38 : decode cX11_place 38 = .ok (.aload_n 3, 1) := by decide +kernel
theorem dX11_place_39 : decode cX11_place 39 = .ok (.iload_n 2, 1) := by decide +kernel
theorem dX11_place_40 : decode cX11_place 40 = .ok (.invokevirtual 145, 3) := by decide +kernel
theorem dX11_place_43 : decode cX11_place 43 = .ok (.ifCond .ne 6, 3) := by decide +kernel
theorem dX11_place_46 : decode cX11_place 46 = .ok (.bipush (-2), 2) := by decide +kernel
theorem dX11_place_48 : decode cX11_place 48 = .ok (.ireturn, 1) := by decide +kernel
theorem dX11_place_49 : decode cX11_place 49 = .ok (.aload_n 3, 1) := by decide +kernel
theorem dX11_place_50 : decode cX11_place 50 = .ok (.getfield 149, 3) := by decide +kernel
theorem dX11_place_53 : decode cX11_place 53 = .ok (.iconst (-1), 1) := by decide +kernel
theorem dX11_place_54 : decode cX11_place 54 = .ok (.if_icmp .eq 6, 3) := by decide +kernel
theorem dX11_place_57 : decode cX11_place 57 = .ok (.bipush (-3), 2) := by decide +kernel
theorem dX11_place_59 : decode cX11_place 59 = .ok (.ireturn, 1) := by decide +kernel
theorem dX11_place_60 : decode cX11_place 60 = .ok (.aload_n 0, 1) := by decide +kernel
theorem dX11_place_61 : decode cX11_place 61 = .ok (.getfield 32, 3) := by decide +kernel
theorem dX11_place_64 : decode cX11_place 64 = .ok (.aload_n 3, 1) := by decide +kernel
theorem dX11_place_65 : decode cX11_place 65 = .ok (.iload_n 2, 1) := by decide +kernel
theorem dX11_place_66 : decode cX11_place 66 = .ok (.invokevirtual 154, 3) := by decide +kernel
theorem dX11_place_69 : decode cX11_place 69 = .ok (.iconst 0, 1) := by decide +kernel
theorem dX11_place_70 : decode cX11_place 70 = .ok (.ireturn, 1) := by decide +kernel
theorem dX11_settle_0 : decode cX11_settle 0 = .ok (.aload_n 0, 1) := by decide +kernel
theorem dX11_settle_1 : decode cX11_settle 1 = .ok (.getfield 32, 3) := by decide +kernel
theorem dX11_settle_4 : decode cX11_settle 4 = .ok (.iload_n 1, 1) := by decide +kernel
theorem dX11_settle_5 : decode cX11_settle 5 = .ok (.invokevirtual 98, 3) := by decide +kernel
theorem dX11_settle_8 : decode cX11_settle 8 = .ok (.ifCond .eq 14, 3) := by decide +kernel
theorem dX11_settle_11 : decode cX11_settle 11 = .ok (.aload_n 0, 1) := by decide +kernel
theorem dX11_settle_12 : decode cX11_settle 12 = .ok (.getfield 18, 3) := by decide +kernel
theorem dX11_settle_15 : decode cX11_settle 15 = .ok (.iload_n 2, 1) := by decide +kernel
theorem dX11_settle_16 : decode cX11_settle 16 = .ok (.invokevirtual 69, 3) := by decide +kernel
theorem dX11_settle_19 : decode cX11_settle 19 = .ok (.ifCond .ne 5, 3) := by decide +kernel
theorem dX11_settle_22 : decode cX11_settle 22 = .ok (.iconst (-1), 1) := by decide +kernel
theorem dX11_settle_23 : decode cX11_settle 23 = .ok (.ireturn, 1) := by decide +kernel
theorem dX11_settle_24 : decode cX11_settle 24 = .ok (.aload_n 0, 1) := by decide +kernel
theorem dX11_settle_25 : decode cX11_settle 25 = .ok (.getfield 32, 3) := by decide +kernel
theorem dX11_settle_28 : decode cX11_settle 28 = .ok (.getfield 101, 3) := by decide +kernel
theorem dX11_settle_31 : decode cX11_settle 31 = .ok (.iload_n 1, 1) := by decide +kernel
theorem dX11_settle_32 : decode cX11_settle 32 = .ok (.aaload, 1) := by decide +kernel
theorem dX11_settle_33 : decode cX11_settle 33 = .ok (.astore_n 3, 1) := by decide +kernel
theorem dX11_settle_34 : decode cX11_settle 34 = .ok (.aload_n 3, 1) := by decide +kernel
theorem dX11_settle_35 : decode cX11_settle 35 = .ok (.getfield 158, 3) := by decide +kernel
theorem dX11_settle_38 : decode cX11_settle 38 = .ok (.ifCond .le 6, 3) := by decide +kernel
theorem dX11_settle_41 : decode cX11_settle 41 = .ok (.bipush (-3), 2) := by decide +kernel
theorem dX11_settle_43 : decode cX11_settle 43 = .ok (.ireturn, 1) := by decide +kernel
theorem dX11_settle_44 : decode cX11_settle 44 = .ok (.aload_n 3, 1) := by decide +kernel
theorem dX11_settle_45 : decode cX11_settle 45 = .ok (.getfield 161, 3) := by decide +kernel
theorem dX11_settle_48 : decode cX11_settle 48 = .ok (.istore 4, 2) := by decide +kernel
theorem dX11_settle_50 : decode cX11_settle 50 = .ok (.aload_n 0, 1) := by decide +kernel
theorem dX11_settle_51 : decode cX11_settle 51 = .ok (.getfield 32, 3) := by decide +kernel
theorem dX11_settle_54 : decode cX11_settle 54 = .ok (.getfield 164, 3) := by decide +kernel
theorem dX11_settle_57 : decode cX11_settle 57 = .ok (.iload 4, 2) := by decide +kernel
theorem dX11_settle_59 : decode cX11_settle 59 = .ok (.iload_n 1, 1) := by decide +kernel
theorem dX11_settle_60 : decode cX11_settle 60 = .ok (.invokevirtual 168, 3) := by decide +kernel
theorem dX11_settle_63 : decode cX11_settle 63 = .ok (.aload_n 0, 1) := by decide +kernel
theorem dX11_settle_64 : decode cX11_settle 64 = .ok (.getfield 32, 3) := by decide +kernel
theorem dX11_settle_67 : decode cX11_settle 67 = .ok (.getfield 164, 3) := by decide +kernel
theorem dX11_settle_70 : decode cX11_settle 70 = .ok (.iload_n 2, 1) := by decide +kernel
theorem dX11_settle_71 : decode cX11_settle 71 = .ok (.iload_n 1, 1) := by decide +kernel
theorem dX11_settle_72 : decode cX11_settle 72 = .ok (.invokevirtual 173, 3) := by decide +kernel
theorem dX11_settle_75 : decode cX11_settle 75 = .ok (.aload_n 3, 1) := by decide +kernel
theorem dX11_settle_76 : decode cX11_settle 76 = .ok (.iload_n 2, 1) := by decide +kernel
theorem dX11_settle_77 : decode cX11_settle 77 = .ok (.putfield 161, 3) := by decide +kernel
theorem dX11_settle_80 : decode cX11_settle 80 = .ok (.iload 4, 2) := by decide +kernel
theorem dX11_settle_82 : decode cX11_settle 82 = .ok (.ireturn, 1) := by decide +kernel
theorem dX11_swap_0 : decode cX11_swap 0 = .ok (.aload_n 0, 1) := by decide +kernel
theorem dX11_swap_1 : decode cX11_swap 1 = .ok (.getfield 32, 3) := by decide +kernel
theorem dX11_swap_4 : decode cX11_swap 4 = .ok (.iload_n 1, 1) := by decide +kernel
theorem dX11_swap_5 : decode cX11_swap 5 = .ok (.invokevirtual 98, 3) := by decide +kernel
theorem dX11_swap_8 : decode cX11_swap 8 = .ok (.ifCond .eq 19, 3) := by decide +kernel
theorem dX11_swap_11 : decode cX11_swap 11 = .ok (.aload_n 0, 1) := by decide +kernel
theorem dX11_swap_12 : decode cX11_swap 12 = .ok (.getfield 32, 3) := by decide +kernel
theorem dX11_swap_15 : decode cX11_swap 15 = .ok (.iload_n 2, 1) := by decide +kernel
theorem dX11_swap_16 : decode cX11_swap 16 = .ok (.invokevirtual 98, 3) := by decide +kernel
theorem dX11_swap_19 : decode cX11_swap 19 = .ok (.ifCond .eq 8, 3) := by decide +kernel
theorem dX11_swap_22 : decode cX11_swap 22 = .ok (.iload_n 1, 1) := by decide +kernel
theorem dX11_swap_23 : decode cX11_swap 23 = .ok (.iload_n 2, 1) := by decide +kernel
theorem dX11_swap_24 : decode cX11_swap 24 = .ok (.if_icmp .ne 5, 3) := by decide +kernel
theorem dX11_swap_27 : decode cX11_swap 27 = .ok (.iconst (-1), 1) := by decide +kernel
theorem dX11_swap_28 : decode cX11_swap 28 = .ok (.ireturn, 1) := by decide +kernel
theorem dX11_swap_29 : decode cX11_swap 29 = .ok (.aload_n 0, 1) := by decide +kernel
theorem dX11_swap_30 : decode cX11_swap 30 = .ok (.getfield 32, 3) := by decide +kernel
theorem dX11_swap_33 : decode cX11_swap 33 = .ok (.getfield 101, 3) := by decide +kernel
theorem dX11_swap_36 : decode cX11_swap 36 = .ok (.iload_n 1, 1) := by decide +kernel
theorem dX11_swap_37 : decode cX11_swap 37 = .ok (.aaload, 1) := by decide +kernel
theorem dX11_swap_38 : decode cX11_swap 38 = .ok (.astore_n 3, 1) := by decide +kernel
theorem dX11_swap_39 : decode cX11_swap 39 = .ok (.aload_n 0, 1) := by decide +kernel
theorem dX11_swap_40 : decode cX11_swap 40 = .ok (.getfield 32, 3) := by decide +kernel
theorem dX11_swap_43 : decode cX11_swap 43 = .ok (.getfield 101, 3) := by decide +kernel
theorem dX11_swap_46 : decode cX11_swap 46 = .ok (.iload_n 2, 1) := by decide +kernel
theorem dX11_swap_47 : decode cX11_swap 47 = .ok (.aaload, 1) := by decide +kernel
theorem dX11_swap_48 : decode cX11_swap 48 = .ok (.astore 4, 2) := by decide +kernel
theorem dX11_swap_50 : decode cX11_swap 50 = .ok (.aload_n 3, 1) := by decide +kernel
theorem dX11_swap_51 : decode cX11_swap 51 = .ok (.getfield 158, 3) := by decide +kernel
theorem dX11_swap_54 : decode cX11_swap 54 = .ok (.ifCond .gt 11, 3) := by decide +kernel
theorem dX11_swap_57 : decode cX11_swap 57 = .ok (.aload 4, 2) := by decide +kernel
theorem dX11_swap_59 : decode cX11_swap 59 = .ok (.getfield 158, 3) := by decide +kernel
theorem dX11_swap_62 : decode cX11_swap 62 = .ok (.ifCond .le 6, 3) := by decide +kernel
theorem dX11_swap_65 : decode cX11_swap 65 = .ok (.bipush (-3), 2) := by decide +kernel
theorem dX11_swap_67 : decode cX11_swap 67 = .ok (.ireturn, 1) := by decide +kernel
theorem dX11_swap_68 : decode cX11_swap 68 = .ok (.aload_n 0, 1) := by decide +kernel
theorem dX11_swap_69 : decode cX11_swap 69 = .ok (.getfield 32, 3) := by decide +kernel
theorem dX11_swap_72 : decode cX11_swap 72 = .ok (.getfield 164, 3) := by decide +kernel
theorem dX11_swap_75 : decode cX11_swap 75 = .ok (.aload_n 3, 1) := by decide +kernel
theorem dX11_swap_76 : decode cX11_swap 76 = .ok (.getfield 161, 3) := by decide +kernel
theorem dX11_swap_79 : decode cX11_swap 79 = .ok (.iload_n 1, 1) := by decide +kernel
theorem dX11_swap_80 : decode cX11_swap 80 = .ok (.aload 4, 2) := by decide +kernel
theorem dX11_swap_82 : decode cX11_swap 82 = .ok (.getfield 161, 3) := by decide +kernel
theorem dX11_swap_85 : decode cX11_swap 85 = .ok (.iload_n 2, 1) := by decide +kernel
theorem dX11_swap_86 : decode cX11_swap 86 = .ok (.invokevirtual 176, 3) := by decide +kernel
theorem dX11_swap_89 : decode cX11_swap 89 = .ok (.aload_n 3, 1) := by decide +kernel
theorem dX11_swap_90 : decode cX11_swap 90 = .ok (.getfield 161, 3) := by decide +kernel
theorem dX11_swap_93 : decode cX11_swap 93 = .ok (.istore 5, 2) := by decide +kernel
theorem dX11_swap_95 : decode cX11_swap 95 = .ok (.aload_n 3, 1) := by decide +kernel
theorem dX11_swap_96 : decode cX11_swap 96 = .ok (.aload 4, 2) := by decide +kernel
theorem dX11_swap_98 : decode cX11_swap 98 = .ok (.getfield 161, 3) := by decide +kernel
theorem dX11_swap_101 : decode cX11_swap 101 = .ok (.putfield 161, 3) := by decide +kernel
theorem dX11_swap_104 : decode cX11_swap 104 = .ok (.aload 4, 2) := by decide +kernel
theorem dX11_swap_106 : decode cX11_swap 106 = .ok (.iload 5, 2) := by decide +kernel
theorem dX11_swap_108 : decode cX11_swap 108 = .ok (.putfield 161, 3) := by decide +kernel
theorem dX11_swap_111 : decode cX11_swap 111 = .ok (.iconst 0, 1) := by decide +kernel
theorem dX11_swap_112 : decode cX11_swap 112 = .ok (.ireturn, 1) := by decide +kernel
theorem dX11_run_0 : decode cX11_run 0 = .ok (.iload_n 1, 1) := by decide +kernel
theorem dX11_run_1 : decode cX11_run 1 = .ok (.iconst 1, 1) := by decide +kernel
theorem dX11_run_2 : decode cX11_run 2 = .ok (.sipush 200, 3) := by decide +kernel
theorem dX11_run_5 : decode cX11_run 5 = .ok (.invokestatic 50, 3) := by decide +kernel
theorem dX11_run_8 : decode cX11_run 8 = .ok (.ifCond .ne 5, 3) := by decide +kernel
theorem dX11_run_11 : decode cX11_run 11 = .ok (.iconst (-1), 1) := by decide +kernel
theorem dX11_run_12 : decode cX11_run 12 = .ok (.ireturn, 1) := by decide +kernel
theorem dX11_run_13 : decode cX11_run 13 = .ok (.aload_n 0, 1) := by decide +kernel
theorem dX11_run_14 : decode cX11_run 14 = .ok (.getfield 32, 3) := by decide +kernel
theorem dX11_run_17 : decode cX11_run 17 = .ok (.getfield 179, 3) := by decide +kernel
theorem dX11_run_20 : decode cX11_run 20 = .ok (.istore_n 2, 1) := by decide +kernel
theorem dX11_run_21 : decode cX11_run 21 = .ok (.iconst 0, 1) := by decide +kernel
theorem dX11_run_22 : decode cX11_run 22 = .ok (.istore_n 3, 1) := by decide +kernel
theorem dX11_run_23 : decode cX11_run 23 = .ok (.iload_n 3, 1) := by decide +kernel
theorem dX11_run_24 : decode cX11_run 24 = .ok (.iload_n 1, 1) := by decide +kernel
theorem dX11_run_25 : decode cX11_run 25 = .ok (.if_icmp .ge 16, 3) := by decide +kernel
theorem dX11_run_28 : decode cX11_run 28 = .ok (.aload_n 0, 1) := by decide +kernel
theorem dX11_run_29 : decode cX11_run 29 = .ok (.getfield 32, 3) := by decide +kernel
theorem dX11_run_32 : decode cX11_run 32 = .ok (.invokevirtual 182, 3) := by decide +kernel
theorem dX11_run_35 : decode cX11_run 35 = .ok (.iinc 3 1, 3) := by decide +kernel
theorem dX11_run_38 : decode cX11_run 38 = .ok (.goto (-15), 3) := by decide +kernel
theorem dX11_run_41 : decode cX11_run 41 = .ok (.aload_n 0, 1) := by decide +kernel
theorem dX11_run_42 : decode cX11_run 42 = .ok (.getfield 32, 3) := by decide +kernel
theorem dX11_run_45 : decode cX11_run 45 = .ok (.getfield 179, 3) := by decide +kernel
theorem dX11_run_48 : decode cX11_run 48 = .ok (.iload_n 2, 1) := by decide +kernel
theorem dX11_run_49 : decode cX11_run 49 = .ok (.isub, 1) := by decide +kernel
theorem dX11_run_50 : decode cX11_run 50 = .ok (.ireturn, 1) := by decide +kernel
theorem dX11_look_0 : decode cX11_look 0 = .ok (.aload_n 0, 1) := by decide +kernel
theorem dX11_look_1 : decode cX11_look 1 = .ok (.getfield 32, 3) := by decide +kernel
theorem dX11_look_4 : decode cX11_look 4 = .ok (.iload_n 1, 1) := by decide +kernel
theorem dX11_look_5 : decode cX11_look 5 = .ok (.invokevirtual 138, 3) := by decide +kernel
theorem dX11_look_8 : decode cX11_look 8 = .ok (.ifCond .ne 5, 3) := by decide +kernel
theorem dX11_look_11 : decode cX11_look 11 = .ok (.iconst (-1), 1) := by decide +kernel
theorem dX11_look_12 : decode cX11_look 12 = .ok (.ireturn, 1) := by decide +kernel
theorem dX11_look_13 : decode cX11_look 13 = .ok (.aload_n 0, 1) := by decide +kernel
theorem dX11_look_14 : decode cX11_look 14 = .ok (.getfield 32, 3) := by decide +kernel
theorem dX11_look_17 : decode cX11_look 17 = .ok (.getfield 141, 3) := by decide +kernel
theorem dX11_look_20 : decode cX11_look 20 = .ok (.iload_n 1, 1) := by decide +kernel
theorem dX11_look_21 : decode cX11_look 21 = .ok (.aaload, 1) := by decide +kernel
theorem dX11_look_22 : decode cX11_look 22 = .ok (.astore_n 3, 1) := by decide +kernel
theorem dX11_look_23 : decode cX11_look 23 = .ok (.iload_n 2, 1) := by decide +kernel
theorem dX11_look_24 : decode cX11_look 24 = .ok (.tableswitch 100 0 6 #[44, 49, 67, 72, 85, 90, 95], 44) := by decide +kernel
theorem dX11_look_68 : decode cX11_look 68 = .ok (.aload_n 3, 1) := by decide +kernel
theorem dX11_look_69 : decode cX11_look 69 = .ok (.getfield 185, 3) := by decide +kernel
theorem dX11_look_72 : decode cX11_look 72 = .ok (.ireturn, 1) := by decide +kernel
theorem dX11_look_73 : decode cX11_look 73 = .ok (.aload_n 3, 1) := by decide +kernel
theorem dX11_look_74 : decode cX11_look 74 = .ok (.getfield 149, 3) := by decide +kernel
theorem dX11_look_77 : decode cX11_look 77 = .ok (.iconst (-1), 1) := by decide +kernel
theorem dX11_look_78 : decode cX11_look 78 = .ok (.if_icmp .ne 8, 3) := by decide +kernel
theorem dX11_look_81 : decode cX11_look 81 = .ok (.bipush (-2), 2) := by decide +kernel
theorem dX11_look_83 : decode cX11_look 83 = .ok (.goto 7, 3) := by decide +kernel
theorem dX11_look_86 : decode cX11_look 86 = .ok (.aload_n 3, 1) := by decide +kernel
theorem dX11_look_87 : decode cX11_look 87 = .ok (.getfield 149, 3) := by decide +kernel
theorem dX11_look_90 : decode cX11_look 90 = .ok (.ireturn, 1) := by decide +kernel
theorem dX11_look_91 : decode cX11_look 91 = .ok (.aload_n 3, 1) := by decide +kernel
theorem dX11_look_92 : decode cX11_look 92 = .ok (.getfield 188, 3) := by decide +kernel
theorem dX11_look_95 : decode cX11_look 95 = .ok (.ireturn, 1) := by decide +kernel
theorem dX11_look_96 : decode cX11_look 96 = .ok (.aload_n 3, 1) := by decide +kernel
theorem dX11_look_97 : decode cX11_look 97 = .ok (.getfield 191, 3) := by decide +kernel
theorem dX11_look_100 : decode cX11_look 100 = .ok (.ifCond .eq 7, 3) := by decide +kernel
theorem dX11_look_103 : decode cX11_look 103 = .ok (.iconst 1, 1) := by decide +kernel
theorem dX11_look_104 : decode cX11_look 104 = .ok (.goto 4, 3) := by decide +kernel
theorem dX11_look_107 : decode cX11_look 107 = .ok (.iconst 0, 1) := by decide +kernel
theorem dX11_look_108 : decode cX11_look 108 = .ok (.ireturn, 1) := by decide +kernel
theorem dX11_look_109 : decode cX11_look 109 = .ok (.aload_n 3, 1) := by decide +kernel
theorem dX11_look_110 : decode cX11_look 110 = .ok (.getfield 194, 3) := by decide +kernel
theorem dX11_look_113 : decode cX11_look 113 = .ok (.ireturn, 1) := by decide +kernel
theorem dX11_look_114 : decode cX11_look 114 = .ok (.aload_n 3, 1) := by decide +kernel
theorem dX11_look_115 : decode cX11_look 115 = .ok (.getfield 197, 3) := by decide +kernel
theorem dX11_look_118 : decode cX11_look 118 = .ok (.ireturn, 1) := by decide +kernel
theorem dX11_look_119 : decode cX11_look 119 = .ok (.aload_n 3, 1) := by decide +kernel
theorem dX11_look_120 : decode cX11_look 120 = .ok (.getfield 200, 3) := by decide +kernel
theorem dX11_look_123 : decode cX11_look 123 = .ok (.ireturn, 1) := by decide +kernel
theorem dX11_look_124 : decode cX11_look 124 = .ok (.iconst (-1), 1) := by decide +kernel
theorem dX11_look_125 : decode cX11_look 125 = .ok (.ireturn, 1) := by decide +kernel
theorem dX11_fault_0 : decode cX11_fault 0 = .ok (.aload_n 0, 1) := by decide +kernel
theorem dX11_fault_1 : decode cX11_fault 1 = .ok (.getfield 32, 3) := by decide +kernel
theorem dX11_fault_4 : decode cX11_fault 4 = .ok (.iload_n 1, 1) := by decide +kernel
theorem dX11_fault_5 : decode cX11_fault 5 = .ok (.invokevirtual 138, 3) := by decide +kernel
theorem dX11_fault_8 : decode cX11_fault 8 = .ok (.ifCond .ne 5, 3) := by decide +kernel
theorem dX11_fault_11 : decode cX11_fault 11 = .ok (.iconst (-1), 1) := by decide +kernel
theorem dX11_fault_12 : decode cX11_fault 12 = .ok (.ireturn, 1) := by decide +kernel
theorem dX11_fault_13 : decode cX11_fault 13 = .ok (.aload_n 0, 1) := by decide +kernel
theorem dX11_fault_14 : decode cX11_fault 14 = .ok (.getfield 32, 3) := by decide +kernel
theorem dX11_fault_17 : decode cX11_fault 17 = .ok (.getfield 141, 3) := by decide +kernel
theorem dX11_fault_20 : decode cX11_fault 20 = .ok (.iload_n 1, 1) := by decide +kernel
theorem dX11_fault_21 : decode cX11_fault 21 = .ok (.aaload, 1) := by decide +kernel
theorem dX11_fault_22 : decode cX11_fault 22 = .ok (.astore_n 3, 1) := by decide +kernel
theorem dX11_fault_23 : decode cX11_fault 23 = .ok (.iload_n 2, 1) := by decide +kernel
theorem dX11_fault_24 : decode cX11_fault 24 = .ok (.iconst 0, 1) := by decide +kernel
theorem dX11_fault_25 : decode cX11_fault 25 = .ok (.aload_n 3, 1) := by decide +kernel
theorem dX11_fault_26 : decode cX11_fault 26 = .ok (.getfield 194, 3) := by decide +kernel
theorem dX11_fault_29 : decode cX11_fault 29 = .ok (.iconst 1, 1) := by decide +kernel
theorem dX11_fault_30 : decode cX11_fault 30 = .ok (.isub, 1) := by decide +kernel
theorem dX11_fault_31 : decode cX11_fault 31 = .ok (.invokestatic 50, 3) := by decide +kernel
theorem dX11_fault_34 : decode cX11_fault 34 = .ok (.ifCond .eq 12, 3) := by decide +kernel
theorem dX11_fault_37 : decode cX11_fault 37 = .ok (.aload_n 3, 1) := by decide +kernel
theorem dX11_fault_38 : decode cX11_fault 38 = .ok (.getfield 203, 3) := by decide +kernel
theorem dX11_fault_41 : decode cX11_fault 41 = .ok (.iload_n 2, 1) := by decide +kernel
theorem dX11_fault_42 : decode cX11_fault 42 = .ok (.iaload, 1) := by decide +kernel
theorem dX11_fault_43 : decode cX11_fault 43 = .ok (.goto 4, 3) := by decide +kernel
theorem dX11_fault_46 : decode cX11_fault 46 = .ok (.iconst (-1), 1) := by decide +kernel
theorem dX11_fault_47 : decode cX11_fault 47 = .ok (.ireturn, 1) := by decide +kernel
theorem dX11_cell_0 : decode cX11_cell 0 = .ok (.aload_n 0, 1) := by decide +kernel
theorem dX11_cell_1 : decode cX11_cell 1 = .ok (.getfield 32, 3) := by decide +kernel
theorem dX11_cell_4 : decode cX11_cell 4 = .ok (.iload_n 1, 1) := by decide +kernel
theorem dX11_cell_5 : decode cX11_cell 5 = .ok (.invokevirtual 138, 3) := by decide +kernel
theorem dX11_cell_8 : decode cX11_cell 8 = .ok (.ifCond .eq 12, 3) := by decide +kernel
theorem dX11_cell_11 : decode cX11_cell 11 = .ok (.iload_n 2, 1) := by decide +kernel
theorem dX11_cell_12 : decode cX11_cell 12 = .ok (.iconst 0, 1) := by decide +kernel
theorem dX11_cell_13 : decode cX11_cell 13 = .ok (.iconst 3, 1) := by decide +kernel
theorem dX11_cell_14 : decode cX11_cell 14 = .ok (.invokestatic 50, 3) := by decide +kernel
theorem dX11_cell_17 : decode cX11_cell 17 = .ok (.ifCond .ne 13, 3) := by decide +kernel
theorem dX11_cell_20 : decode cX11_cell 20 = .ok (.new 206, 3) := by decide +kernel
theorem dX11_cell_23 : decode cX11_cell 23 = .ok (.dup, 1) := by decide +kernel
theorem dX11_cell_24 : decode cX11_cell 24 = .ok (.ldc 208, 2) := by decide +kernel
theorem dX11_cell_26 : decode cX11_cell 26 = .ok (.invokespecial 210, 3) := by decide +kernel
theorem dX11_cell_29 : decode cX11_cell 29 = .ok (.athrow, 1) := by decide +kernel
theorem dX11_cell_30 : decode cX11_cell 30 = .ok (.aload_n 0, 1) := by decide +kernel
theorem dX11_cell_31 : decode cX11_cell 31 = .ok (.getfield 32, 3) := by decide +kernel
theorem dX11_cell_34 : decode cX11_cell 34 = .ok (.getfield 141, 3) := by decide +kernel
theorem dX11_cell_37 : decode cX11_cell 37 = .ok (.iload_n 1, 1) := by decide +kernel
theorem dX11_cell_38 : decode cX11_cell 38 = .ok (.aaload, 1) := by decide +kernel
theorem dX11_cell_39 : decode cX11_cell 39 = .ok (.getfield 213, 3) := by decide +kernel
theorem dX11_cell_42 : decode cX11_cell 42 = .ok (.iload_n 2, 1) := by decide +kernel
theorem dX11_cell_43 : decode cX11_cell 43 = .ok (.iaload, 1) := by decide +kernel
theorem dX11_cell_44 : decode cX11_cell 44 = .ok (.ireturn, 1) := by decide +kernel
theorem dX11_about_0 : decode cX11_about 0 = .ok (.aload_n 0, 1) := by decide +kernel
theorem dX11_about_1 : decode cX11_about 1 = .ok (.getfield 32, 3) := by decide +kernel
theorem dX11_about_4 : decode cX11_about 4 = .ok (.iload_n 1, 1) := by decide +kernel
theorem dX11_about_5 : decode cX11_about 5 = .ok (.invokevirtual 98, 3) := by decide +kernel
theorem dX11_about_8 : decode cX11_about 8 = .ok (.ifCond .ne 5, 3) := by decide +kernel
theorem dX11_about_11 : decode cX11_about 11 = .ok (.iconst (-1), 1) := by decide +kernel
theorem dX11_about_12 : decode cX11_about 12 = .ok (.ireturn, 1) := by decide +kernel
theorem dX11_about_13 : decode cX11_about 13 = .ok (.aload_n 0, 1) := by decide +kernel
theorem dX11_about_14 : decode cX11_about 14 = .ok (.getfield 32, 3) := by decide +kernel
theorem dX11_about_17 : decode cX11_about 17 = .ok (.getfield 101, 3) := by decide +kernel
theorem dX11_about_20 : decode cX11_about 20 = .ok (.iload_n 1, 1) := by decide +kernel
theorem dX11_about_21 : decode cX11_about 21 = .ok (.aaload, 1) := by decide +kernel
theorem dX11_about_22 : decode cX11_about 22 = .ok (.astore_n 3, 1) := by decide +kernel
theorem dX11_about_23 : decode cX11_about 23 = .ok (.iload_n 2, 1) := by decide +kernel
theorem dX11_about_24 : decode cX11_about 24 = .ok (.tableswitch 107 0 7 #[48, 53, 58, 63, 68, 73, 86, 91], 48) := by decide +kernel
theorem dX11_about_72 : decode cX11_about 72 = .ok (.aload_n 3, 1) := by decide +kernel
theorem dX11_about_73 : decode cX11_about 73 = .ok (.getfield 161, 3) := by decide +kernel
theorem dX11_about_76 : decode cX11_about 76 = .ok (.ireturn, 1) := by decide +kernel
theorem dX11_about_77 : decode cX11_about 77 = .ok (.aload_n 3, 1) := by decide +kernel
theorem dX11_about_78 : decode cX11_about 78 = .ok (.getfield 216, 3) := by decide +kernel
theorem dX11_about_81 : decode cX11_about 81 = .ok (.ireturn, 1) := by decide +kernel
theorem dX11_about_82 : decode cX11_about 82 = .ok (.aload_n 3, 1) := by decide +kernel
theorem dX11_about_83 : decode cX11_about 83 = .ok (.invokevirtual 219, 3) := by decide +kernel
theorem dX11_about_86 : decode cX11_about 86 = .ok (.ireturn, 1) := by decide +kernel
theorem dX11_about_87 : decode cX11_about 87 = .ok (.aload_n 3, 1) := by decide +kernel
theorem dX11_about_88 : decode cX11_about 88 = .ok (.getfield 158, 3) := by decide +kernel
theorem dX11_about_91 : decode cX11_about 91 = .ok (.ireturn, 1) := by decide +kernel
theorem dX11_about_92 : decode cX11_about 92 = .ok (.aload_n 3, 1) := by decide +kernel
theorem dX11_about_93 : decode cX11_about 93 = .ok (.getfield 223, 3) := by decide +kernel
theorem dX11_about_96 : decode cX11_about 96 = .ok (.ireturn, 1) := by decide +kernel
theorem dX11_about_97 : decode cX11_about 97 = .ok (.aload_n 3, 1) := by decide +kernel
theorem dX11_about_98 : decode cX11_about 98 = .ok (.getfield 105, 3) := by decide +kernel
theorem dX11_about_101 : decode cX11_about 101 = .ok (.ifCond .eq 7, 3) := by decide +kernel
theorem dX11_about_104 : decode cX11_about 104 = .ok (.iconst 1, 1) := by decide +kernel
theorem dX11_about_105 : decode cX11_about 105 = .ok (.goto 4, 3) := by decide +kernel
theorem dX11_about_108 : decode cX11_about 108 = .ok (.iconst 0, 1) := by decide +kernel
theorem dX11_about_109 : decode cX11_about 109 = .ok (.ireturn, 1) := by decide +kernel
theorem dX11_about_110 : decode cX11_about 110 = .ok (.aload_n 3, 1) := by decide +kernel
theorem dX11_about_111 : decode cX11_about 111 = .ok (.getfield 226, 3) := by decide +kernel
theorem dX11_about_114 : decode cX11_about 114 = .ok (.ireturn, 1) := by decide +kernel
theorem dX11_about_115 : decode cX11_about 115 = .ok (.aload_n 0, 1) := by decide +kernel
theorem dX11_about_116 : decode cX11_about 116 = .ok (.getfield 32, 3) := by decide +kernel
theorem dX11_about_119 : decode cX11_about 119 = .ok (.getfield 164, 3) := by decide +kernel
theorem dX11_about_122 : decode cX11_about 122 = .ok (.aload_n 3, 1) := by decide +kernel
theorem dX11_about_123 : decode cX11_about 123 = .ok (.getfield 161, 3) := by decide +kernel
theorem dX11_about_126 : decode cX11_about 126 = .ok (.iload_n 1, 1) := by decide +kernel
theorem dX11_about_127 : decode cX11_about 127 = .ok (.invokevirtual 227, 3) := by decide +kernel
theorem dX11_about_130 : decode cX11_about 130 = .ok (.ireturn, 1) := by decide +kernel
theorem dX11_about_131 : decode cX11_about 131 = .ok (.iconst (-1), 1) := by decide +kernel
theorem dX11_about_132 : decode cX11_about 132 = .ok (.ireturn, 1) := by decide +kernel
theorem dX11_read_0 : decode cX11_read 0 = .ok (.aload_n 0, 1) := by decide +kernel
theorem dX11_read_1 : decode cX11_read 1 = .ok (.getfield 32, 3) := by decide +kernel
theorem dX11_read_4 : decode cX11_read 4 = .ok (.iload_n 1, 1) := by decide +kernel
theorem dX11_read_5 : decode cX11_read 5 = .ok (.invokevirtual 98, 3) := by decide +kernel
theorem dX11_read_8 : decode cX11_read 8 = .ok (.ifCond .ne 13, 3) := by decide +kernel
theorem dX11_read_11 : decode cX11_read 11 = .ok (.new 206, 3) := by decide +kernel
theorem dX11_read_14 : decode cX11_read 14 = .ok (.dup, 1) := by decide +kernel
theorem dX11_read_15 : decode cX11_read 15 = .ok (.ldc 230, 2) := by decide +kernel
theorem dX11_read_17 : decode cX11_read 17 = .ok (.invokespecial 210, 3) := by decide +kernel
theorem dX11_read_20 : decode cX11_read 20 = .ok (.athrow, 1) := by decide +kernel
theorem dX11_read_21 : decode cX11_read 21 = .ok (.aload_n 0, 1) := by decide +kernel
theorem dX11_read_22 : decode cX11_read 22 = .ok (.getfield 32, 3) := by decide +kernel
theorem dX11_read_25 : decode cX11_read 25 = .ok (.getfield 101, 3) := by decide +kernel
theorem dX11_read_28 : decode cX11_read 28 = .ok (.iload_n 1, 1) := by decide +kernel
theorem dX11_read_29 : decode cX11_read 29 = .ok (.aaload, 1) := by decide +kernel
theorem dX11_read_30 : decode cX11_read 30 = .ok (.getfield 232, 3) := by decide +kernel
theorem dX11_read_33 : decode cX11_read 33 = .ok (.ireturn, 1) := by decide +kernel
theorem dX11_node_0 : decode cX11_node 0 = .ok (.aload_n 0, 1) := by decide +kernel
theorem dX11_node_1 : decode cX11_node 1 = .ok (.getfield 18, 3) := by decide +kernel
theorem dX11_node_4 : decode cX11_node 4 = .ok (.iload_n 1, 1) := by decide +kernel
theorem dX11_node_5 : decode cX11_node 5 = .ok (.invokevirtual 69, 3) := by decide +kernel
theorem dX11_node_8 : decode cX11_node 8 = .ok (.ifCond .ne 5, 3) := by decide +kernel
theorem dX11_node_11 : decode cX11_node 11 = .ok (.iconst (-1), 1) := by decide +kernel
theorem dX11_node_12 : decode cX11_node 12 = .ok (.ireturn, 1) := by decide +kernel
theorem dX11_node_13 : decode cX11_node 13 = .ok (.iload_n 2, 1) := by decide +kernel
theorem dX11_node_14 : decode cX11_node 14 = .ok (.tableswitch 72 0 3 #[30, 40, 50, 59], 30) := by decide +kernel
theorem dX11_node_44 : decode cX11_node 44 = .ok (.aload_n 0, 1) := by decide +kernel
theorem dX11_node_45 : decode cX11_node 45 = .ok (.getfield 32, 3) := by decide +kernel
theorem dX11_node_48 : decode cX11_node 48 = .ok (.getfield 235, 3) := by decide +kernel
theorem dX11_node_51 : decode cX11_node 51 = .ok (.iload_n 1, 1) := by decide +kernel
theorem dX11_node_52 : decode cX11_node 52 = .ok (.iaload, 1) := by decide +kernel
theorem dX11_node_53 : decode cX11_node 53 = .ok (.ireturn, 1) := by decide +kernel
theorem dX11_node_54 : decode cX11_node 54 = .ok (.aload_n 0, 1) := by decide +kernel
theorem dX11_node_55 : decode cX11_node 55 = .ok (.getfield 32, 3) := by decide +kernel
theorem dX11_node_58 : decode cX11_node 58 = .ok (.getfield 238, 3) := by decide +kernel
theorem dX11_node_61 : decode cX11_node 61 = .ok (.iload_n 1, 1) := by decide +kernel
theorem dX11_node_62 : decode cX11_node 62 = .ok (.iaload, 1) := by decide +kernel
theorem dX11_node_63 : decode cX11_node 63 = .ok (.ireturn, 1) := by decide +kernel
theorem dX11_node_64 : decode cX11_node 64 = .ok (.aload_n 0, 1) := by decide +kernel
theorem dX11_node_65 : decode cX11_node 65 = .ok (.getfield 32, 3) := by decide +kernel
theorem dX11_node_68 : decode cX11_node 68 = .ok (.iload_n 1, 1) := by decide +kernel
theorem dX11_node_69 : decode cX11_node 69 = .ok (.invokevirtual 241, 3) := by decide +kernel
theorem dX11_node_72 : decode cX11_node 72 = .ok (.ireturn, 1) := by decide +kernel
theorem dX11_node_73 : decode cX11_node 73 = .ok (.aload_n 0, 1) := by decide +kernel
theorem dX11_node_74 : decode cX11_node 74 = .ok (.getfield 32, 3) := by decide +kernel
theorem dX11_node_77 : decode cX11_node 77 = .ok (.getfield 164, 3) := by decide +kernel
theorem dX11_node_80 : decode cX11_node 80 = .ok (.getfield 244, 3) := by decide +kernel
theorem dX11_node_83 : decode cX11_node 83 = .ok (.iload_n 1, 1) := by decide +kernel
theorem dX11_node_84 : decode cX11_node 84 = .ok (.iaload, 1) := by decide +kernel
theorem dX11_node_85 : decode cX11_node 85 = .ok (.ireturn, 1) := by decide +kernel
theorem dX11_node_86 : decode cX11_node 86 = .ok (.iconst (-1), 1) := by decide +kernel
theorem dX11_node_87 : decode cX11_node 87 = .ok (.ireturn, 1) := by decide +kernel
theorem dX11_linked_0 : decode cX11_linked 0 = .ok (.aload_n 0, 1) := by decide +kernel
theorem dX11_linked_1 : decode cX11_linked 1 = .ok (.getfield 18, 3) := by decide +kernel
theorem dX11_linked_4 : decode cX11_linked 4 = .ok (.iload_n 1, 1) := by decide +kernel
theorem dX11_linked_5 : decode cX11_linked 5 = .ok (.iload_n 2, 1) := by decide +kernel
theorem dX11_linked_6 : decode cX11_linked 6 = .ok (.invokevirtual 46, 3) := by decide +kernel
theorem dX11_linked_9 : decode cX11_linked 9 = .ok (.ifCond .ne 5, 3) := by decide +kernel
theorem dX11_linked_12 : decode cX11_linked 12 = .ok (.iconst (-1), 1) := by decide +kernel
theorem dX11_linked_13 : decode cX11_linked 13 = .ok (.ireturn, 1) := by decide +kernel
theorem dX11_linked_14 : decode cX11_linked 14 = .ok (.aload_n 0, 1) := by decide +kernel
theorem dX11_linked_15 : decode cX11_linked 15 = .ok (.getfield 18, 3) := by decide +kernel
theorem dX11_linked_18 : decode cX11_linked 18 = .ok (.iload_n 1, 1) := by decide +kernel
theorem dX11_linked_19 : decode cX11_linked 19 = .ok (.iload_n 2, 1) := by decide +kernel
theorem dX11_linked_20 : decode cX11_linked 20 = .ok (.invokevirtual 62, 3) := by decide +kernel
theorem dX11_linked_23 : decode cX11_linked 23 = .ok (.istore 4, 2) := by decide +kernel
theorem dX11_linked_25 : decode cX11_linked 25 = .ok (.iload_n 3, 1) := by decide +kernel
theorem dX11_linked_26 : decode cX11_linked 26 = .ok (.tableswitch 80 0 3 #[30, 41, 52, 66], 30) := by decide +kernel
theorem dX11_linked_56 : decode cX11_linked 56 = .ok (.aload_n 0, 1) := by decide +kernel
theorem dX11_linked_57 : decode cX11_linked 57 = .ok (.getfield 18, 3) := by decide +kernel
theorem dX11_linked_60 : decode cX11_linked 60 = .ok (.getfield 58, 3) := by decide +kernel
theorem dX11_linked_63 : decode cX11_linked 63 = .ok (.iload 4, 2) := by decide +kernel
theorem dX11_linked_65 : decode cX11_linked 65 = .ok (.iaload, 1) := by decide +kernel
theorem dX11_linked_66 : decode cX11_linked 66 = .ok (.ireturn, 1) := by decide +kernel
theorem dX11_linked_67 : decode cX11_linked 67 = .ok (.aload_n 0, 1) := by decide +kernel
theorem dX11_linked_68 : decode cX11_linked 68 = .ok (.getfield 18, 3) := by decide +kernel
theorem dX11_linked_71 : decode cX11_linked 71 = .ok (.getfield 247, 3) := by decide +kernel
theorem dX11_linked_74 : decode cX11_linked 74 = .ok (.iload 4, 2) := by decide +kernel
theorem dX11_linked_76 : decode cX11_linked 76 = .ok (.iaload, 1) := by decide +kernel
theorem dX11_linked_77 : decode cX11_linked 77 = .ok (.ireturn, 1) := by decide +kernel
theorem dX11_linked_78 : decode cX11_linked 78 = .ok (.aload_n 0, 1) := by decide +kernel
theorem dX11_linked_79 : decode cX11_linked 79 = .ok (.getfield 32, 3) := by decide +kernel
theorem dX11_linked_82 : decode cX11_linked 82 = .ok (.getfield 250, 3) := by decide +kernel
theorem dX11_linked_85 : decode cX11_linked 85 = .ok (.getfield 254, 3) := by decide +kernel
theorem dX11_linked_88 : decode cX11_linked 88 = .ok (.iload 4, 2) := by decide +kernel
theorem dX11_linked_90 : decode cX11_linked 90 = .ok (.iaload, 1) := by decide +kernel
theorem dX11_linked_91 : decode cX11_linked 91 = .ok (.ireturn, 1) := by decide +kernel
theorem dX11_linked_92 : decode cX11_linked 92 = .ok (.aload_n 0, 1) := by decide +kernel
theorem dX11_linked_93 : decode cX11_linked 93 = .ok (.getfield 32, 3) := by decide +kernel
theorem dX11_linked_96 : decode cX11_linked 96 = .ok (.getfield 250, 3) := by decide +kernel
theorem dX11_linked_99 : decode cX11_linked 99 = .ok (.getfield 259, 3) := by decide +kernel
theorem dX11_linked_102 : decode cX11_linked 102 = .ok (.iload 4, 2) := by decide +kernel
theorem dX11_linked_104 : decode cX11_linked 104 = .ok (.iaload, 1) := by decide +kernel
theorem dX11_linked_105 : decode cX11_linked 105 = .ok (.ireturn, 1) := by decide +kernel
theorem dX11_linked_106 : decode cX11_linked 106 = .ok (.iconst (-1), 1) := by decide +kernel
theorem dX11_linked_107 : decode cX11_linked 107 = .ok (.ireturn, 1) := by decide +kernel
theorem dX11_log_0 : decode cX11_log 0 = .ok (.iload_n 1, 1) := by decide +kernel
theorem dX11_log_1 : decode cX11_log 1 = .ok (.iconst 0, 1) := by decide +kernel
theorem dX11_log_2 : decode cX11_log 2 = .ok (.aload_n 0, 1) := by decide +kernel
theorem dX11_log_3 : decode cX11_log 3 = .ok (.getfield 32, 3) := by decide +kernel
theorem dX11_log_6 : decode cX11_log 6 = .ok (.getfield 261, 3) := by decide +kernel
theorem dX11_log_9 : decode cX11_log 9 = .ok (.getfield 265, 3) := by decide +kernel
theorem dX11_log_12 : decode cX11_log 12 = .ok (.iconst 1, 1) := by decide +kernel
theorem dX11_log_13 : decode cX11_log 13 = .ok (.isub, 1) := by decide +kernel
theorem dX11_log_14 : decode cX11_log 14 = .ok (.invokestatic 50, 3) := by decide +kernel
theorem dX11_log_17 : decode cX11_log 17 = .ok (.ifCond .eq 13, 3) := by decide +kernel
theorem dX11_log_20 : decode cX11_log 20 = .ok (.iload_n 2, 1) := by decide +kernel
theorem dX11_log_21 : decode cX11_log 21 = .ok (.iconst 0, 1) := by decide +kernel
theorem dX11_log_22 : decode cX11_log 22 = .ok (.bipush 9, 2) := by decide +kernel
theorem dX11_log_24 : decode cX11_log 24 = .ok (.invokestatic 50, 3) := by decide +kernel
theorem dX11_log_27 : decode cX11_log 27 = .ok (.ifCond .ne 5, 3) := by decide +kernel
theorem dX11_log_30 : decode cX11_log 30 = .ok (.iconst (-1), 1) := by decide +kernel
theorem dX11_log_31 : decode cX11_log 31 = .ok (.ireturn, 1) := by decide +kernel
theorem dX11_log_32 : decode cX11_log 32 = .ok (.aload_n 0, 1) := by decide +kernel
theorem dX11_log_33 : decode cX11_log 33 = .ok (.getfield 32, 3) := by decide +kernel
theorem dX11_log_36 : decode cX11_log 36 = .ok (.getfield 261, 3) := by decide +kernel
theorem dX11_log_39 : decode cX11_log 39 = .ok (.iload_n 1, 1) := by decide +kernel
theorem dX11_log_40 : decode cX11_log 40 = .ok (.iload_n 2, 1) := by decide +kernel
theorem dX11_log_41 : decode cX11_log 41 = .ok (.invokevirtual 269, 3) := by decide +kernel
theorem dX11_log_44 : decode cX11_log 44 = .ok (.ireturn, 1) := by decide +kernel
theorem dX11_best_0 : decode cX11_best 0 = .ok (.aload_n 0, 1) := by decide +kernel
theorem dX11_best_1 : decode cX11_best 1 = .ok (.getfield 32, 3) := by decide +kernel
theorem dX11_best_4 : decode cX11_best 4 = .ok (.iload_n 1, 1) := by decide +kernel
theorem dX11_best_5 : decode cX11_best 5 = .ok (.invokevirtual 138, 3) := by decide +kernel
theorem dX11_best_8 : decode cX11_best 8 = .ok (.ifCond .ne 5, 3) := by decide +kernel
theorem dX11_best_11 : decode cX11_best 11 = .ok (.iconst (-1), 1) := by decide +kernel
theorem dX11_best_12 : decode cX11_best 12 = .ok (.ireturn, 1) := by decide +kernel
theorem dX11_best_13 : decode cX11_best 13 = .ok (.aload_n 0, 1) := by decide +kernel
theorem dX11_best_14 : decode cX11_best 14 = .ok (.getfield 32, 3) := by decide +kernel
theorem dX11_best_17 : decode cX11_best 17 = .ok (.getfield 261, 3) := by decide +kernel
theorem dX11_best_20 : decode cX11_best 20 = .ok (.iload_n 1, 1) := by decide +kernel
theorem dX11_best_21 : decode cX11_best 21 = .ok (.aload_n 0, 1) := by decide +kernel
theorem dX11_best_22 : decode cX11_best 22 = .ok (.getfield 18, 3) := by decide +kernel
theorem dX11_best_25 : decode cX11_best 25 = .ok (.aload_n 0, 1) := by decide +kernel
theorem dX11_best_26 : decode cX11_best 26 = .ok (.getfield 32, 3) := by decide +kernel
theorem dX11_best_29 : decode cX11_best 29 = .ok (.getfield 125, 3) := by decide +kernel
theorem dX11_best_32 : decode cX11_best 32 = .ok (.getfield 272, 3) := by decide +kernel
theorem dX11_best_35 : decode cX11_best 35 = .ok (.invokevirtual 275, 3) := by decide +kernel
theorem dX11_best_38 : decode cX11_best 38 = .ok (.istore_n 2, 1) := by decide +kernel
theorem dX11_best_39 : decode cX11_best 39 = .ok (.iload_n 2, 1) := by decide +kernel
theorem dX11_best_40 : decode cX11_best 40 = .ok (.ldc_w 279, 3) := by decide +kernel
theorem dX11_best_43 : decode cX11_best 43 = .ok (.if_icmp .ge 7, 3) := by decide +kernel
theorem dX11_best_46 : decode cX11_best 46 = .ok (.iload_n 2, 1) := by decide +kernel
theorem dX11_best_47 : decode cX11_best 47 = .ok (.goto 5, 3) := by decide +kernel
theorem dX11_best_50 : decode cX11_best 50 = .ok (.bipush (-2), 2) := by decide +kernel
theorem dX11_best_52 : decode cX11_best 52 = .ok (.ireturn, 1) := by decide +kernel
theorem dX11_gap_0 : decode cX11_gap 0 = .ok (.aload_n 0, 1) := by decide +kernel
theorem dX11_gap_1 : decode cX11_gap 1 = .ok (.getfield 32, 3) := by decide +kernel
theorem dX11_gap_4 : decode cX11_gap 4 = .ok (.iload_n 1, 1) := by decide +kernel
theorem dX11_gap_5 : decode cX11_gap 5 = .ok (.invokevirtual 138, 3) := by decide +kernel
theorem dX11_gap_8 : decode cX11_gap 8 = .ok (.ifCond .eq 17, 3) := by decide +kernel
theorem dX11_gap_11 : decode cX11_gap 11 = .ok (.aload_n 0, 1) := by decide +kernel
theorem dX11_gap_12 : decode cX11_gap 12 = .ok (.getfield 32, 3) := by decide +kernel
theorem dX11_gap_15 : decode cX11_gap 15 = .ok (.getfield 261, 3) := by decide +kernel
theorem dX11_gap_18 : decode cX11_gap 18 = .ok (.iload_n 1, 1) := by decide +kernel
theorem dX11_gap_19 : decode cX11_gap 19 = .ok (.invokevirtual 280, 3) := by decide +kernel
theorem dX11_gap_22 : decode cX11_gap 22 = .ok (.goto 4, 3) := by decide +kernel
theorem dX11_gap_25 : decode cX11_gap 25 = .ok (.iconst (-1), 1) := by decide +kernel
theorem dX11_gap_26 : decode cX11_gap 26 = .ok (.ireturn, 1) := by decide +kernel
theorem dX11_other_0 : decode cX11_other 0 = .ok (.iload_n 1, 1) := by decide +kernel
theorem dX11_other_1 : decode cX11_other 1 = .ok (.iload_n 2, 1) := by decide +kernel
theorem dX11_other_2 : decode cX11_other 2 = .ok (.iload_n 3, 1) := by decide +kernel
theorem dX11_other_3 : decode cX11_other 3 = .ok (.invokestatic 122, 3) := by decide +kernel
theorem dX11_other_6 : decode cX11_other 6 = .ok (.ifCond .eq 15, 3) := by decide +kernel
theorem dX11_other_9 : decode cX11_other 9 = .ok (.iload 4, 2) := by decide +kernel
theorem dX11_other_11 : decode cX11_other 11 = .ok (.iconst 1, 1) := by decide +kernel
theorem dX11_other_12 : decode cX11_other 12 = .ok (.sipush 200, 3) := by decide +kernel
theorem dX11_other_15 : decode cX11_other 15 = .ok (.invokestatic 50, 3) := by decide +kernel
theorem dX11_other_18 : decode cX11_other 18 = .ok (.ifCond .ne 5, 3) := by decide +kernel
theorem dX11_other_21 : decode cX11_other 21 = .ok (.iconst (-1), 1) := by decide +kernel
theorem dX11_other_22 : decode cX11_other 22 = .ok (.ireturn, 1) := by decide +kernel
theorem dX11_other_23 : decode cX11_other 23 = .ok (.aload_n 0, 1) := by decide +kernel
theorem dX11_other_24 : decode cX11_other 24 = .ok (.getfield 36, 3) := by decide +kernel
theorem dX11_other_27 : decode cX11_other 27 = .ok (.aload_n 0, 1) := by decide +kernel
theorem dX11_other_28 : decode cX11_other 28 = .ok (.getfield 32, 3) := by decide +kernel
theorem dX11_other_31 : decode cX11_other 31 = .ok (.invokevirtual 283, 3) := by decide +kernel
theorem dX11_other_34 : decode cX11_other 34 = .ok (.aload_n 0, 1) := by decide +kernel
theorem dX11_other_35 : decode cX11_other 35 = .ok (.getfield 36, 3) := by decide +kernel
theorem dX11_other_38 : decode cX11_other 38 = .ok (.getfield 125, 3) := by decide +kernel
theorem dX11_other_41 : decode cX11_other 41 = .ok (.iload_n 1, 1) := by decide +kernel
theorem dX11_other_42 : decode cX11_other 42 = .ok (.iload_n 2, 1) := by decide +kernel
theorem dX11_other_43 : decode cX11_other 43 = .ok (.iload_n 3, 1) := by decide +kernel
theorem dX11_other_44 : decode cX11_other 44 = .ok (.invokevirtual 129, 3) := by decide +kernel
theorem dX11_other_47 : decode cX11_other 47 = .ok (.iconst 0, 1) := by decide +kernel
theorem dX11_other_48 : decode cX11_other 48 = .ok (.istore 5, 2) := by decide +kernel
theorem dX11_other_50 : decode cX11_other 50 = .ok (.iload 5, 2) := by decide +kernel
theorem dX11_other_52 : decode cX11_other 52 = .ok (.iload 4, 2) := by decide +kernel
theorem dX11_other_54 : decode cX11_other 54 = .ok (.if_icmp .ge 16, 3) := by decide +kernel
theorem dX11_other_57 : decode cX11_other 57 = .ok (.aload_n 0, 1) := by decide +kernel
theorem dX11_other_58 : decode cX11_other 58 = .ok (.getfield 36, 3) := by decide +kernel
theorem dX11_other_61 : decode cX11_other 61 = .ok (.invokevirtual 182, 3) := by decide +kernel
theorem dX11_other_64 : decode cX11_other 64 = .ok (.iinc 5 1, 3) := by decide +kernel
theorem dX11_other_67 : decode cX11_other 67 = .ok (.goto (-17), 3) := by decide +kernel
theorem dX11_other_70 : decode cX11_other 70 = .ok (.aload_n 0, 1) := by decide +kernel
theorem dX11_other_71 : decode cX11_other 71 = .ok (.getfield 36, 3) := by decide +kernel
theorem dX11_other_74 : decode cX11_other 74 = .ok (.getfield 287, 3) := by decide +kernel
theorem dX11_other_77 : decode cX11_other 77 = .ok (.ireturn, 1) := by decide +kernel
theorem dX11_same_0 : decode cX11_same 0 = .ok (.aload_n 0, 1) := by decide +kernel
theorem dX11_same_1 : decode cX11_same 1 = .ok (.getfield 32, 3) := by decide +kernel
theorem dX11_same_4 : decode cX11_same 4 = .ok (.getfield 179, 3) := by decide +kernel
theorem dX11_same_7 : decode cX11_same 7 = .ok (.aload_n 0, 1) := by decide +kernel
theorem dX11_same_8 : decode cX11_same 8 = .ok (.getfield 32, 3) := by decide +kernel
theorem dX11_same_11 : decode cX11_same 11 = .ok (.getfield 261, 3) := by decide +kernel
theorem dX11_same_14 : decode cX11_same 14 = .ok (.getfield 265, 3) := by decide +kernel
theorem dX11_same_17 : decode cX11_same 17 = .ok (.if_icmp .le 6, 3) := by decide +kernel
theorem dX11_same_20 : decode cX11_same 20 = .ok (.bipush (-2), 2) := by decide +kernel
theorem dX11_same_22 : decode cX11_same 22 = .ok (.ireturn, 1) := by decide +kernel
theorem dX11_same_23 : decode cX11_same 23 = .ok (.aload_n 0, 1) := by decide +kernel
theorem dX11_same_24 : decode cX11_same 24 = .ok (.getfield 32, 3) := by decide +kernel
theorem dX11_same_27 : decode cX11_same 27 = .ok (.getfield 261, 3) := by decide +kernel
theorem dX11_same_30 : decode cX11_same 30 = .ok (.aload_n 0, 1) := by decide +kernel
theorem dX11_same_31 : decode cX11_same 31 = .ok (.getfield 32, 3) := by decide +kernel
theorem dX11_same_34 : decode cX11_same 34 = .ok (.getfield 141, 3) := by decide +kernel
theorem dX11_same_37 : decode cX11_same 37 = .ok (.aload_n 0, 1) := by decide +kernel
theorem dX11_same_38 : decode cX11_same 38 = .ok (.getfield 32, 3) := by decide +kernel
theorem dX11_same_41 : decode cX11_same 41 = .ok (.getfield 85, 3) := by decide +kernel
theorem dX11_same_44 : decode cX11_same 44 = .ok (.invokevirtual 290, 3) := by decide +kernel
theorem dX11_same_47 : decode cX11_same 47 = .ok (.ifCond .eq 7, 3) := by decide +kernel
theorem dX11_same_50 : decode cX11_same 50 = .ok (.iconst 1, 1) := by decide +kernel
theorem dX11_same_51 : decode cX11_same 51 = .ok (.goto 4, 3) := by decide +kernel
theorem dX11_same_54 : decode cX11_same 54 = .ok (.iconst 0, 1) := by decide +kernel
theorem dX11_same_55 : decode cX11_same 55 = .ok (.ireturn, 1) := by decide +kernel
theorem dX11_count_0 : decode cX11_count 0 = .ok (.iload_n 1, 1) := by decide +kernel
theorem dX11_count_1 : decode cX11_count 1 = .ok (.tableswitch 147 0 10 #[59, 67, 75, 83, 91, 99, 107, 115, 123, 131, 139], 59) := by decide +kernel
theorem dX11_count_60 : decode cX11_count 60 = .ok (.aload_n 0, 1) := by decide +kernel
theorem dX11_count_61 : decode cX11_count 61 = .ok (.getfield 32, 3) := by decide +kernel
theorem dX11_count_64 : decode cX11_count 64 = .ok (.getfield 54, 3) := by decide +kernel
theorem dX11_count_67 : decode cX11_count 67 = .ok (.ireturn, 1) := by decide +kernel
theorem dX11_count_68 : decode cX11_count 68 = .ok (.aload_n 0, 1) := by decide +kernel
theorem dX11_count_69 : decode cX11_count 69 = .ok (.getfield 18, 3) := by decide +kernel
theorem dX11_count_72 : decode cX11_count 72 = .ok (.getfield 79, 3) := by decide +kernel
theorem dX11_count_75 : decode cX11_count 75 = .ok (.ireturn, 1) := by decide +kernel
theorem dX11_count_76 : decode cX11_count 76 = .ok (.aload_n 0, 1) := by decide +kernel
theorem dX11_count_77 : decode cX11_count 77 = .ok (.getfield 18, 3) := by decide +kernel
theorem dX11_count_80 : decode cX11_count 80 = .ok (.getfield 294, 3) := by decide +kernel
theorem dX11_count_83 : decode cX11_count 83 = .ok (.ireturn, 1) := by decide +kernel
theorem dX11_count_84 : decode cX11_count 84 = .ok (.aload_n 0, 1) := by decide +kernel
theorem dX11_count_85 : decode cX11_count 85 = .ok (.getfield 18, 3) := by decide +kernel
theorem dX11_count_88 : decode cX11_count 88 = .ok (.getfield 297, 3) := by decide +kernel
theorem dX11_count_91 : decode cX11_count 91 = .ok (.ireturn, 1) := by decide +kernel
theorem dX11_count_92 : decode cX11_count 92 = .ok (.aload_n 0, 1) := by decide +kernel
theorem dX11_count_93 : decode cX11_count 93 = .ok (.getfield 32, 3) := by decide +kernel
theorem dX11_count_96 : decode cX11_count 96 = .ok (.getfield 85, 3) := by decide +kernel
theorem dX11_count_99 : decode cX11_count 99 = .ok (.ireturn, 1) := by decide +kernel
theorem dX11_count_100 : decode cX11_count 100 = .ok (.aload_n 0, 1) := by decide +kernel
theorem dX11_count_101 : decode cX11_count 101 = .ok (.getfield 32, 3) := by decide +kernel
theorem dX11_count_104 : decode cX11_count 104 = .ok (.getfield 92, 3) := by decide +kernel
theorem dX11_count_107 : decode cX11_count 107 = .ok (.ireturn, 1) := by decide +kernel
theorem dX11_count_108 : decode cX11_count 108 = .ok (.aload_n 0, 1) := by decide +kernel
theorem dX11_count_109 : decode cX11_count 109 = .ok (.getfield 32, 3) := by decide +kernel
theorem dX11_count_112 : decode cX11_count 112 = .ok (.getfield 179, 3) := by decide +kernel
theorem dX11_count_115 : decode cX11_count 115 = .ok (.ireturn, 1) := by decide +kernel
theorem dX11_count_116 : decode cX11_count 116 = .ok (.aload_n 0, 1) := by decide +kernel
theorem dX11_count_117 : decode cX11_count 117 = .ok (.getfield 32, 3) := by decide +kernel
theorem dX11_count_120 : decode cX11_count 120 = .ok (.getfield 287, 3) := by decide +kernel
theorem dX11_count_123 : decode cX11_count 123 = .ok (.ireturn, 1) := by decide +kernel
theorem dX11_count_124 : decode cX11_count 124 = .ok (.aload_n 0, 1) := by decide +kernel
theorem dX11_count_125 : decode cX11_count 125 = .ok (.getfield 32, 3) := by decide +kernel
theorem dX11_count_128 : decode cX11_count 128 = .ok (.getfield 300, 3) := by decide +kernel
theorem dX11_count_131 : decode cX11_count 131 = .ok (.ireturn, 1) := by decide +kernel
theorem dX11_count_132 : decode cX11_count 132 = .ok (.aload_n 0, 1) := by decide +kernel
theorem dX11_count_133 : decode cX11_count 133 = .ok (.getfield 32, 3) := by decide +kernel
theorem dX11_count_136 : decode cX11_count 136 = .ok (.getfield 302, 3) := by decide +kernel
theorem dX11_count_139 : decode cX11_count 139 = .ok (.ireturn, 1) := by decide +kernel
theorem dX11_count_140 : decode cX11_count 140 = .ok (.aload_n 0, 1) := by decide +kernel
theorem dX11_count_141 : decode cX11_count 141 = .ok (.getfield 32, 3) := by decide +kernel
theorem dX11_count_144 : decode cX11_count 144 = .ok (.getfield 303, 3) := by decide +kernel
theorem dX11_count_147 : decode cX11_count 147 = .ok (.ireturn, 1) := by decide +kernel
theorem dX11_count_148 : decode cX11_count 148 = .ok (.iconst (-1), 1) := by decide +kernel
theorem dX11_count_149 : decode cX11_count 149 = .ok (.ireturn, 1) := by decide +kernel
theorem dX11_keep_0 : decode cX11_keep 0 = .ok (.iload_n 1, 1) := by decide +kernel
theorem dX11_keep_1 : decode cX11_keep 1 = .ok (.invokestatic 306, 3) := by decide +kernel
theorem dX11_keep_4 : decode cX11_keep 4 = .ok (.ifCond .ne 5, 3) := by decide +kernel
theorem dX11_keep_7 : decode cX11_keep 7 = .ok (.iconst (-1), 1) := by decide +kernel
theorem dX11_keep_8 : decode cX11_keep 8 = .ok (.ireturn, 1) := by decide +kernel
theorem dX11_keep_9 : decode cX11_keep 9 = .ok (.iload_n 2, 1) := by decide +kernel
theorem dX11_keep_10 : decode cX11_keep 10 = .ok (.iconst 1, 1) := by decide +kernel
theorem dX11_keep_11 : decode cX11_keep 11 = .ok (.if_icmp .eq 8, 3) := by decide +kernel
theorem dX11_keep_14 : decode cX11_keep 14 = .ok (.iload_n 2, 1) := by decide +kernel
theorem dX11_keep_15 : decode cX11_keep 15 = .ok (.iconst 4, 1) := by decide +kernel
theorem dX11_keep_16 : decode cX11_keep 16 = .ok (.if_icmp .ne 16, 3) := by decide +kernel
theorem dX11_keep_19 : decode cX11_keep 19 = .ok (.aload_n 0, 1) := by decide +kernel
theorem dX11_keep_20 : decode cX11_keep 20 = .ok (.getfield 32, 3) := by decide +kernel
theorem dX11_keep_23 : decode cX11_keep 23 = .ok (.iload_n 3, 1) := by decide +kernel
theorem dX11_keep_24 : decode cX11_keep 24 = .ok (.invokevirtual 138, 3) := by decide +kernel
theorem dX11_keep_27 : decode cX11_keep 27 = .ok (.ifCond .ne 5, 3) := by decide +kernel
theorem dX11_keep_30 : decode cX11_keep 30 = .ok (.iconst (-1), 1) := by decide +kernel
theorem dX11_keep_31 : decode cX11_keep 31 = .ok (.ireturn, 1) := by decide +kernel
theorem dX11_keep_32 : decode cX11_keep 32 = .ok (.iload_n 2, 1) := by decide +kernel
theorem dX11_keep_33 : decode cX11_keep 33 = .ok (.tableswitch 113 0 4 #[35, 47, 113, 68, 93], 35) := by decide +kernel
theorem dX11_keep_68 : decode cX11_keep 68 = .ok (.aload_n 0, 1) := by decide +kernel
theorem dX11_keep_69 : decode cX11_keep 69 = .ok (.getfield 41, 3) := by decide +kernel
theorem dX11_keep_72 : decode cX11_keep 72 = .ok (.iload_n 1, 1) := by decide +kernel
theorem dX11_keep_73 : decode cX11_keep 73 = .ok (.aaload, 1) := by decide +kernel
theorem dX11_keep_74 : decode cX11_keep 74 = .ok (.iconst 0, 1) := by decide +kernel
theorem dX11_keep_75 : decode cX11_keep 75 = .ok (.putfield 309, 3) := by decide +kernel
theorem dX11_keep_78 : decode cX11_keep 78 = .ok (.iconst 0, 1) := by decide +kernel
theorem dX11_keep_79 : decode cX11_keep 79 = .ok (.ireturn, 1) := by decide +kernel
theorem dX11_keep_80 : decode cX11_keep 80 = .ok (.aload_n 0, 1) := by decide +kernel
theorem dX11_keep_81 : decode cX11_keep 81 = .ok (.getfield 41, 3) := by decide +kernel
theorem dX11_keep_84 : decode cX11_keep 84 = .ok (.iload_n 1, 1) := by decide +kernel
theorem dX11_keep_85 : decode cX11_keep 85 = .ok (.aaload, 1) := by decide +kernel
theorem dX11_keep_86 : decode cX11_keep 86 = .ok (.iload_n 3, 1) := by decide +kernel
theorem dX11_keep_87 : decode cX11_keep 87 = .ok (.aload_n 0, 1) := by decide +kernel
theorem dX11_keep_88 : decode cX11_keep 88 = .ok (.getfield 32, 3) := by decide +kernel
theorem dX11_keep_91 : decode cX11_keep 91 = .ok (.getfield 141, 3) := by decide +kernel
theorem dX11_keep_94 : decode cX11_keep 94 = .ok (.iload_n 3, 1) := by decide +kernel
theorem dX11_keep_95 : decode cX11_keep 95 = .ok (.aaload, 1) := by decide +kernel
theorem dX11_keep_96 : decode cX11_keep 96 = .ok (.invokevirtual 312, 3) := by decide +kernel
theorem dX11_keep_99 : decode cX11_keep 99 = .ok (.iconst 0, 1) := by decide +kernel
theorem dX11_keep_100 : decode cX11_keep 100 = .ok (.ireturn, 1) := by decide +kernel
theorem dX11_keep_101 : decode cX11_keep 101 = .ok (.aload_n 0, 1) := by decide +kernel
theorem dX11_keep_102 : decode cX11_keep 102 = .ok (.getfield 41, 3) := by decide +kernel
theorem dX11_keep_105 : decode cX11_keep 105 = .ok (.iload_n 1, 1) := by decide +kernel
theorem dX11_keep_106 : decode cX11_keep 106 = .ok (.aaload, 1) := by decide +kernel
theorem dX11_keep_107 : decode cX11_keep 107 = .ok (.aload_n 0, 1) := by decide +kernel
theorem dX11_keep_108 : decode cX11_keep 108 = .ok (.getfield 32, 3) := by decide +kernel
theorem dX11_keep_111 : decode cX11_keep 111 = .ok (.getfield 101, 3) := by decide +kernel
theorem dX11_keep_114 : decode cX11_keep 114 = .ok (.aload_n 0, 1) := by decide +kernel
theorem dX11_keep_115 : decode cX11_keep 115 = .ok (.getfield 32, 3) := by decide +kernel
theorem dX11_keep_118 : decode cX11_keep 118 = .ok (.getfield 92, 3) := by decide +kernel
theorem dX11_keep_121 : decode cX11_keep 121 = .ok (.invokevirtual 316, 3) := by decide +kernel
theorem dX11_keep_124 : decode cX11_keep 124 = .ok (.iconst 0, 1) := by decide +kernel
theorem dX11_keep_125 : decode cX11_keep 125 = .ok (.ireturn, 1) := by decide +kernel
theorem dX11_keep_126 : decode cX11_keep 126 = .ok (.aload_n 0, 1) := by decide +kernel
theorem dX11_keep_127 : decode cX11_keep 127 = .ok (.getfield 41, 3) := by decide +kernel
theorem dX11_keep_130 : decode cX11_keep 130 = .ok (.iload_n 1, 1) := by decide +kernel
theorem dX11_keep_131 : decode cX11_keep 131 = .ok (.aaload, 1) := by decide +kernel
theorem dX11_keep_132 : decode cX11_keep 132 = .ok (.aload_n 0, 1) := by decide +kernel
theorem dX11_keep_133 : decode cX11_keep 133 = .ok (.getfield 32, 3) := by decide +kernel
theorem dX11_keep_136 : decode cX11_keep 136 = .ok (.getfield 141, 3) := by decide +kernel
theorem dX11_keep_139 : decode cX11_keep 139 = .ok (.iload_n 3, 1) := by decide +kernel
theorem dX11_keep_140 : decode cX11_keep 140 = .ok (.aaload, 1) := by decide +kernel
theorem dX11_keep_141 : decode cX11_keep 141 = .ok (.invokevirtual 320, 3) := by decide +kernel
theorem dX11_keep_144 : decode cX11_keep 144 = .ok (.iconst 0, 1) := by decide +kernel
theorem dX11_keep_145 : decode cX11_keep 145 = .ok (.ireturn, 1) := by decide +kernel
theorem dX11_keep_146 : decode cX11_keep 146 = .ok (.iconst (-1), 1) := by decide +kernel
theorem dX11_keep_147 : decode cX11_keep 147 = .ok (.ireturn, 1) := by decide +kernel
theorem dX11_make_0 : decode cX11_make 0 = .ok (.iload_n 1, 1) := by decide +kernel
theorem dX11_make_1 : decode cX11_make 1 = .ok (.invokestatic 306, 3) := by decide +kernel
theorem dX11_make_4 : decode cX11_make 4 = .ok (.ifCond .eq 19, 3) := by decide +kernel
theorem dX11_make_7 : decode cX11_make 7 = .ok (.iload_n 2, 1) := by decide +kernel
theorem dX11_make_8 : decode cX11_make 8 = .ok (.iconst 3, 1) := by decide +kernel
theorem dX11_make_9 : decode cX11_make 9 = .ok (.if_icmp .eq 8, 3) := by decide +kernel
theorem dX11_make_12 : decode cX11_make 12 = .ok (.iload_n 2, 1) := by decide +kernel
theorem dX11_make_13 : decode cX11_make 13 = .ok (.iconst 4, 1) := by decide +kernel
theorem dX11_make_14 : decode cX11_make 14 = .ok (.if_icmp .ne 9, 3) := by decide +kernel
theorem dX11_make_17 : decode cX11_make 17 = .ok (.iload_n 3, 1) := by decide +kernel
theorem dX11_make_18 : decode cX11_make 18 = .ok (.bipush 60, 2) := by decide +kernel
theorem dX11_make_20 : decode cX11_make 20 = .ok (.if_icmp .le 5, 3) := by decide +kernel
theorem dX11_make_23 : decode cX11_make 23 = .ok (.iconst (-1), 1) := by decide +kernel
theorem dX11_make_24 : decode cX11_make 24 = .ok (.ireturn, 1) := by decide +kernel
theorem dX11_make_25 : decode cX11_make 25 = .ok (.iload_n 3, 1) := by decide +kernel
theorem dX11_make_26 : decode cX11_make 26 = .ok (.ifCond .ge 6, 3) := by decide +kernel
theorem dX11_make_29 : decode cX11_make 29 = .ok (.bipush (-14), 2) := by decide +kernel
theorem dX11_make_31 : decode cX11_make 31 = .ok (.ireturn, 1) := by decide +kernel
theorem dX11_make_32 : decode cX11_make 32 = .ok (.aload_n 0, 1) := by decide +kernel
theorem dX11_make_33 : decode cX11_make 33 = .ok (.getfield 41, 3) := by decide +kernel
theorem dX11_make_36 : decode cX11_make 36 = .ok (.iload_n 1, 1) := by decide +kernel
theorem dX11_make_37 : decode cX11_make 37 = .ok (.aaload, 1) := by decide +kernel
theorem dX11_make_38 : decode cX11_make 38 = .ok (.iload_n 2, 1) := by decide +kernel
theorem dX11_make_39 : decode cX11_make 39 = .ok (.iload_n 3, 1) := by decide +kernel
theorem dX11_make_40 : decode cX11_make 40 = .ok (.invokevirtual 324, 3) := by decide +kernel
theorem dX11_make_43 : decode cX11_make 43 = .ok (.iconst 0, 1) := by decide +kernel
theorem dX11_make_44 : decode cX11_make 44 = .ok (.ireturn, 1) := by decide +kernel
theorem dX11_element_0 : decode cX11_element 0 = .ok (.iload_n 1, 1) := by decide +kernel
theorem dX11_element_1 : decode cX11_element 1 = .ok (.invokestatic 306, 3) := by decide +kernel
theorem dX11_element_4 : decode cX11_element 4 = .ok (.ifCond .ne 14, 3) := by decide +kernel
theorem dX11_element_7 : decode cX11_element 7 = .ok (.new 206, 3) := by decide +kernel
theorem dX11_element_10 : decode cX11_element 10 = .ok (.dup, 1) := by decide +kernel
theorem dX11_element_11 : decode cX11_element 11 = .ok (.ldc_w 327, 3) := by decide +kernel
theorem dX11_element_14 : decode cX11_element 14 = .ok (.invokespecial 210, 3) := by decide +kernel
theorem dX11_element_17 : decode cX11_element 17 = .ok (.athrow, 1) := by decide +kernel
theorem dX11_element_18 : decode cX11_element 18 = .ok (.aload_n 0, 1) := by decide +kernel
theorem dX11_element_19 : decode cX11_element 19 = .ok (.getfield 41, 3) := by decide +kernel
theorem dX11_element_22 : decode cX11_element 22 = .ok (.iload_n 1, 1) := by decide +kernel
theorem dX11_element_23 : decode cX11_element 23 = .ok (.aaload, 1) := by decide +kernel
theorem dX11_element_24 : decode cX11_element 24 = .ok (.astore_n 3, 1) := by decide +kernel
theorem dX11_element_25 : decode cX11_element 25 = .ok (.aload_n 3, 1) := by decide +kernel
theorem dX11_element_26 : decode cX11_element 26 = .ok (.invokevirtual 329, 3) := by decide +kernel
theorem dX11_element_29 : decode cX11_element 29 = .ok (.ifCond .eq 17, 3) := by decide +kernel
theorem dX11_element_32 : decode cX11_element 32 = .ok (.iload_n 2, 1) := by decide +kernel
theorem dX11_element_33 : decode cX11_element 33 = .ok (.iconst 0, 1) := by decide +kernel
theorem dX11_element_34 : decode cX11_element 34 = .ok (.aload_n 3, 1) := by decide +kernel
theorem dX11_element_35 : decode cX11_element 35 = .ok (.getfield 333, 3) := by decide +kernel
theorem dX11_element_38 : decode cX11_element 38 = .ok (.iconst 1, 1) := by decide +kernel
theorem dX11_element_39 : decode cX11_element 39 = .ok (.isub, 1) := by decide +kernel
theorem dX11_element_40 : decode cX11_element 40 = .ok (.invokestatic 50, 3) := by decide +kernel
theorem dX11_element_43 : decode cX11_element 43 = .ok (.ifCond .ne 14, 3) := by decide +kernel
theorem dX11_element_46 : decode cX11_element 46 = .ok (.new 334, 3) := by decide +kernel
theorem dX11_element_49 : decode cX11_element 49 = .ok (.dup, 1) := by decide +kernel
theorem dX11_element_50 : decode cX11_element 50 = .ok (.ldc_w 336, 3) := by decide +kernel
theorem dX11_element_53 : decode cX11_element 53 = .ok (.invokespecial 338, 3) := by decide +kernel
theorem dX11_element_56 : decode cX11_element 56 = .ok (.athrow, 1) := by decide +kernel
theorem dX11_element_57 : decode cX11_element 57 = .ok (.aload_n 3, 1) := by decide +kernel
theorem dX11_element_58 : decode cX11_element 58 = .ok (.getfield 309, 3) := by decide +kernel
theorem dX11_element_61 : decode cX11_element 61 = .ok (.iconst 3, 1) := by decide +kernel
theorem dX11_element_62 : decode cX11_element 62 = .ok (.if_icmp .ne 13, 3) := by decide +kernel
theorem dX11_element_65 : decode cX11_element 65 = .ok (.aload_n 3, 1) := by decide +kernel
theorem dX11_element_66 : decode cX11_element 66 = .ok (.getfield 339, 3) := by decide +kernel
theorem dX11_element_69 : decode cX11_element 69 = .ok (.iload_n 2, 1) := by decide +kernel
theorem dX11_element_70 : decode cX11_element 70 = .ok (.baload, 1) := by decide +kernel
theorem dX11_element_71 : decode cX11_element 71 = .ok (.i2l, 1) := by decide +kernel
theorem dX11_element_72 : decode cX11_element 72 = .ok (.goto 10, 3) := by decide +kernel
theorem dX11_element_75 : decode cX11_element 75 = .ok (.aload_n 3, 1) := by decide +kernel
theorem dX11_element_76 : decode cX11_element 76 = .ok (.getfield 343, 3) := by decide +kernel
theorem dX11_element_79 : decode cX11_element 79 = .ok (.iload_n 2, 1) := by decide +kernel
theorem dX11_element_80 : decode cX11_element 80 = .ok (.iaload, 1) := by decide +kernel
theorem dX11_element_81 : decode cX11_element 81 = .ok (.i2l, 1) := by decide +kernel
theorem dX11_element_82 : decode cX11_element 82 = .ok (.lreturn, 1) := by decide +kernel
theorem dX11_copy_0 : decode cX11_copy 0 = .ok (.iload_n 1, 1) := by decide +kernel
theorem dX11_copy_1 : decode cX11_copy 1 = .ok (.invokestatic 306, 3) := by decide +kernel
theorem dX11_copy_4 : decode cX11_copy 4 = .ok (.ifCond .eq 10, 3) := by decide +kernel
theorem dX11_copy_7 : decode cX11_copy 7 = .ok (.iload_n 3, 1) := by decide +kernel
theorem dX11_copy_8 : decode cX11_copy 8 = .ok (.invokestatic 306, 3) := by decide +kernel
theorem dX11_copy_11 : decode cX11_copy 11 = .ok (.ifCond .ne 5, 3) := by decide +kernel
theorem dX11_copy_14 : decode cX11_copy 14 = .ok (.iconst (-1), 1) := by decide +kernel
theorem dX11_copy_15 : decode cX11_copy 15 = .ok (.ireturn, 1) := by decide +kernel
theorem dX11_copy_16 : decode cX11_copy 16 = .ok (.aload_n 0, 1) := by decide +kernel
theorem dX11_copy_17 : decode cX11_copy 17 = .ok (.getfield 41, 3) := by decide +kernel
theorem dX11_copy_20 : decode cX11_copy 20 = .ok (.iload_n 1, 1) := by decide +kernel
theorem dX11_copy_21 : decode cX11_copy 21 = .ok (.aaload, 1) := by decide +kernel
theorem dX11_copy_22 : decode cX11_copy 22 = .ok (.astore 6, 2) := by decide +kernel
theorem dX11_copy_24 : decode cX11_copy 24 = .ok (.aload_n 0, 1) := by decide +kernel
theorem dX11_copy_25 : decode cX11_copy 25 = .ok (.getfield 41, 3) := by decide +kernel
theorem dX11_copy_28 : decode cX11_copy 28 = .ok (.iload_n 3, 1) := by decide +kernel
theorem dX11_copy_29 : decode cX11_copy 29 = .ok (.aaload, 1) := by decide +kernel
theorem dX11_copy_30 : decode cX11_copy 30 = .ok (.astore 7, 2) := by decide +kernel
theorem dX11_copy_32 : decode cX11_copy 32 = .ok (.aload 6, 2) := by decide +kernel
theorem dX11_copy_34 : decode cX11_copy 34 = .ok (.getfield 309, 3) := by decide +kernel
theorem dX11_copy_37 : decode cX11_copy 37 = .ok (.ifCond .eq 11, 3) := by decide +kernel
theorem dX11_copy_40 : decode cX11_copy 40 = .ok (.aload 7, 2) := by decide +kernel
theorem dX11_copy_42 : decode cX11_copy 42 = .ok (.getfield 309, 3) := by decide +kernel
theorem dX11_copy_45 : decode cX11_copy 45 = .ok (.ifCond .ne 6, 3) := by decide +kernel
theorem dX11_copy_48 : decode cX11_copy 48 = .ok (.bipush (-11), 2) := by decide +kernel
theorem dX11_copy_50 : decode cX11_copy 50 = .ok (.ireturn, 1) := by decide +kernel
theorem dX11_copy_51 : decode cX11_copy 51 = .ok (.aload 6, 2) := by decide +kernel
theorem dX11_copy_53 : decode cX11_copy 53 = .ok (.invokevirtual 329, 3) := by decide +kernel
theorem dX11_copy_56 : decode cX11_copy 56 = .ok (.ifCond .eq 16, 3) := by decide +kernel
theorem dX11_copy_59 : decode cX11_copy 59 = .ok (.aload 6, 2) := by decide +kernel
theorem dX11_copy_61 : decode cX11_copy 61 = .ok (.getfield 309, 3) := by decide +kernel
theorem dX11_copy_64 : decode cX11_copy 64 = .ok (.aload 7, 2) := by decide +kernel
theorem dX11_copy_66 : decode cX11_copy 66 = .ok (.getfield 309, 3) := by decide +kernel
theorem dX11_copy_69 : decode cX11_copy 69 = .ok (.if_icmp .eq 6, 3) := by decide +kernel
theorem dX11_copy_72 : decode cX11_copy 72 = .ok (.bipush (-12), 2) := by decide +kernel
theorem dX11_copy_74 : decode cX11_copy 74 = .ok (.ireturn, 1) := by decide +kernel
theorem dX11_copy_75 : decode cX11_copy 75 = .ok (.aload 6, 2) := by decide +kernel
theorem dX11_copy_77 : decode cX11_copy 77 = .ok (.iload_n 2, 1) := by decide +kernel
theorem dX11_copy_78 : decode cX11_copy 78 = .ok (.iload 5, 2) := by decide +kernel
theorem dX11_copy_80 : decode cX11_copy 80 = .ok (.invokevirtual 346, 3) := by decide +kernel
theorem dX11_copy_83 : decode cX11_copy 83 = .ok (.ifCond .eq 15, 3) := by decide +kernel
theorem dX11_copy_86 : decode cX11_copy 86 = .ok (.aload 7, 2) := by decide +kernel
theorem dX11_copy_88 : decode cX11_copy 88 = .ok (.iload 4, 2) := by decide +kernel
theorem dX11_copy_90 : decode cX11_copy 90 = .ok (.iload 5, 2) := by decide +kernel
theorem dX11_copy_92 : decode cX11_copy 92 = .ok (.invokevirtual 346, 3) := by decide +kernel
theorem dX11_copy_95 : decode cX11_copy 95 = .ok (.ifCond .ne 6, 3) := by decide +kernel
theorem dX11_copy_98 : decode cX11_copy 98 = .ok (.bipush (-13), 2) := by decide +kernel
theorem dX11_copy_100 : decode cX11_copy 100 = .ok (.ireturn, 1) := by decide +kernel
theorem dX11_copy_101 : decode cX11_copy 101 = .ok (.aload 6, 2) := by decide +kernel
theorem dX11_copy_103 : decode cX11_copy 103 = .ok (.getfield 309, 3) := by decide +kernel
theorem dX11_copy_106 : decode cX11_copy 106 = .ok (.iconst 3, 1) := by decide +kernel
theorem dX11_copy_107 : decode cX11_copy 107 = .ok (.if_icmp .ne 24, 3) := by decide +kernel
theorem dX11_copy_110 : decode cX11_copy 110 = .ok (.aload 6, 2) := by decide +kernel
theorem dX11_copy_112 : decode cX11_copy 112 = .ok (.getfield 339, 3) := by decide +kernel
theorem dX11_copy_115 : decode cX11_copy 115 = .ok (.iload_n 2, 1) := by decide +kernel
theorem dX11_copy_116 : decode cX11_copy 116 = .ok (.aload 7, 2) := by decide +kernel
theorem dX11_copy_118 : decode cX11_copy 118 = .ok (.getfield 339, 3) := by decide +kernel
theorem dX11_copy_121 : decode cX11_copy 121 = .ok (.iload 4, 2) := by decide +kernel
theorem dX11_copy_123 : decode cX11_copy 123 = .ok (.iload 5, 2) := by decide +kernel
theorem dX11_copy_125 : decode cX11_copy 125 = .ok (.invokestatic 349, 3) := by decide +kernel
theorem dX11_copy_128 : decode cX11_copy 128 = .ok (.goto 21, 3) := by decide +kernel
theorem dX11_copy_131 : decode cX11_copy 131 = .ok (.aload 6, 2) := by decide +kernel
theorem dX11_copy_133 : decode cX11_copy 133 = .ok (.getfield 343, 3) := by decide +kernel
theorem dX11_copy_136 : decode cX11_copy 136 = .ok (.iload_n 2, 1) := by decide +kernel
theorem dX11_copy_137 : decode cX11_copy 137 = .ok (.aload 7, 2) := by decide +kernel
theorem dX11_copy_139 : decode cX11_copy 139 = .ok (.getfield 343, 3) := by decide +kernel
theorem dX11_copy_142 : decode cX11_copy 142 = .ok (.iload 4, 2) := by decide +kernel
theorem dX11_copy_144 : decode cX11_copy 144 = .ok (.iload 5, 2) := by decide +kernel
theorem dX11_copy_146 : decode cX11_copy 146 = .ok (.invokestatic 349, 3) := by decide +kernel
theorem dX11_copy_149 : decode cX11_copy 149 = .ok (.iload 5, 2) := by decide +kernel
theorem dX11_copy_151 : decode cX11_copy 151 = .ok (.ireturn, 1) := by decide +kernel
theorem dX11_weight_0 : decode cX11_weight 0 = .ok (.aload_n 0, 1) := by decide +kernel
theorem dX11_weight_1 : decode cX11_weight 1 = .ok (.iload_n 1, 1) := by decide +kernel
theorem dX11_weight_2 : decode cX11_weight 2 = .ok (.invokevirtual 355, 3) := by decide +kernel
theorem dX11_weight_5 : decode cX11_weight 5 = .ok (.istore_n 2, 1) := by decide +kernel
theorem dX11_weight_6 : decode cX11_weight 6 = .ok (.iload_n 2, 1) := by decide +kernel
theorem dX11_weight_7 : decode cX11_weight 7 = .ok (.ifCond .eq 7, 3) := by decide +kernel
theorem dX11_weight_10 : decode cX11_weight 10 = .ok (.iload_n 2, 1) := by decide +kernel
theorem dX11_weight_11 : decode cX11_weight 11 = .ok (.goto 12, 3) := by decide +kernel
theorem dX11_weight_14 : decode cX11_weight 14 = .ok (.aload_n 0, 1) := by decide +kernel
theorem dX11_weight_15 : decode cX11_weight 15 = .ok (.getfield 41, 3) := by decide +kernel
theorem dX11_weight_18 : decode cX11_weight 18 = .ok (.iload_n 1, 1) := by decide +kernel
theorem dX11_weight_19 : decode cX11_weight 19 = .ok (.aaload, 1) := by decide +kernel
theorem dX11_weight_20 : decode cX11_weight 20 = .ok (.invokevirtual 358, 3) := by decide +kernel
theorem dX11_weight_23 : decode cX11_weight 23 = .ok (.ireturn, 1) := by decide +kernel
theorem dX11_toss_0 : decode cX11_toss 0 = .ok (.aload_n 0, 1) := by decide +kernel
theorem dX11_toss_1 : decode cX11_toss 1 = .ok (.iload_n 1, 1) := by decide +kernel
theorem dX11_toss_2 : decode cX11_toss 2 = .ok (.invokevirtual 355, 3) := by decide +kernel
theorem dX11_toss_5 : decode cX11_toss 5 = .ok (.istore_n 2, 1) := by decide +kernel
theorem dX11_toss_6 : decode cX11_toss 6 = .ok (.iload_n 2, 1) := by decide +kernel
theorem dX11_toss_7 : decode cX11_toss 7 = .ok (.ifCond .eq 5, 3) := by decide +kernel
theorem dX11_toss_10 : decode cX11_toss 10 = .ok (.iload_n 2, 1) := by decide +kernel
theorem dX11_toss_11 : decode cX11_toss 11 = .ok (.ireturn, 1) := by decide +kernel
theorem dX11_toss_12 : decode cX11_toss 12 = .ok (.aload_n 0, 1) := by decide +kernel
theorem dX11_toss_13 : decode cX11_toss 13 = .ok (.getfield 41, 3) := by decide +kernel
theorem dX11_toss_16 : decode cX11_toss 16 = .ok (.iload_n 1, 1) := by decide +kernel
theorem dX11_toss_17 : decode cX11_toss 17 = .ok (.aaload, 1) := by decide +kernel
theorem dX11_toss_18 : decode cX11_toss 18 = .ok (.astore_n 3, 1) := by decide +kernel
theorem dX11_toss_19 : decode cX11_toss 19 = .ok (.aload_n 3, 1) := by decide +kernel
theorem dX11_toss_20 : decode cX11_toss 20 = .ok (.invokevirtual 361, 3) := by decide +kernel
theorem dX11_toss_23 : decode cX11_toss 23 = .ok (.goto 10, 3) := by decide +kernel
theorem dX11_toss_26 : decode cX11_toss 26 = .ok (.astore 4, 2) := by decide +kernel
theorem dX11_toss_28 : decode cX11_toss 28 = .ok (.aload_n 3, 1) := by decide +kernel
theorem dX11_toss_29 : decode cX11_toss 29 = .ok (.getfield 364, 3) := by decide +kernel
theorem dX11_toss_32 : decode cX11_toss 32 = .ok (.ireturn, 1) := by decide +kernel
theorem dX11_toss_33 : decode cX11_toss 33 = .ok (.bipush (-15), 2) := by decide +kernel
theorem dX11_toss_35 : decode cX11_toss 35 = .ok (.ireturn, 1) := by decide +kernel
theorem dX11_refusalOfPageOn_0 : decode cX11_refusalOfPageOn 0 = .ok (.iload_n 1, 1) := by decide +kernel
theorem dX11_refusalOfPageOn_1 : decode cX11_refusalOfPageOn 1 = .ok (.invokestatic 306, 3) := by decide +kernel
theorem dX11_refusalOfPageOn_4 : decode cX11_refusalOfPageOn 4 = .ok (.ifCond .ne 5, 3) := by decide +kernel
theorem dX11_refusalOfPageOn_7 : decode cX11_refusalOfPageOn 7 = .ok (.iconst (-1), 1) := by decide +kernel
theorem dX11_refusalOfPageOn_8 : decode cX11_refusalOfPageOn 8 = .ok (.ireturn, 1) := by decide +kernel
theorem dX11_refusalOfPageOn_9 : decode cX11_refusalOfPageOn 9 = .ok (.aload_n 0, 1) := by decide +kernel
theorem dX11_refusalOfPageOn_10 : decode cX11_refusalOfPageOn 10 = .ok (.getfield 41, 3) := by decide +kernel
theorem dX11_refusalOfPageOn_13 : decode cX11_refusalOfPageOn 13 = .ok (.iload_n 1, 1) := by decide +kernel
theorem dX11_refusalOfPageOn_14 : decode cX11_refusalOfPageOn 14 = .ok (.aaload, 1) := by decide +kernel
theorem dX11_refusalOfPageOn_15 : decode cX11_refusalOfPageOn 15 = .ok (.getfield 309, 3) := by decide +kernel
theorem dX11_refusalOfPageOn_18 : decode cX11_refusalOfPageOn 18 = .ok (.ifCond .ne 6, 3) := by decide +kernel
theorem dX11_refusalOfPageOn_21 : decode cX11_refusalOfPageOn 21 = .ok (.bipush (-11), 2) := by decide +kernel
theorem dX11_refusalOfPageOn_23 : decode cX11_refusalOfPageOn 23 = .ok (.ireturn, 1) := by decide +kernel
theorem dX11_refusalOfPageOn_24 : decode cX11_refusalOfPageOn 24 = .ok (.aload_n 0, 1) := by decide +kernel
theorem dX11_refusalOfPageOn_25 : decode cX11_refusalOfPageOn 25 = .ok (.getfield 41, 3) := by decide +kernel
theorem dX11_refusalOfPageOn_28 : decode cX11_refusalOfPageOn 28 = .ok (.iload_n 1, 1) := by decide +kernel
theorem dX11_refusalOfPageOn_29 : decode cX11_refusalOfPageOn 29 = .ok (.aaload, 1) := by decide +kernel
theorem dX11_refusalOfPageOn_30 : decode cX11_refusalOfPageOn 30 = .ok (.getfield 309, 3) := by decide +kernel
theorem dX11_refusalOfPageOn_33 : decode cX11_refusalOfPageOn 33 = .ok (.iconst 1, 1) := by decide +kernel
theorem dX11_refusalOfPageOn_34 : decode cX11_refusalOfPageOn 34 = .ok (.if_icmp .ne 7, 3) := by decide +kernel
theorem dX11_refusalOfPageOn_37 : decode cX11_refusalOfPageOn 37 = .ok (.iconst 0, 1) := by decide +kernel
theorem dX11_refusalOfPageOn_38 : decode cX11_refusalOfPageOn 38 = .ok (.goto 5, 3) := by decide +kernel
theorem dX11_refusalOfPageOn_41 : decode cX11_refusalOfPageOn 41 = .ok (.bipush (-12), 2) := by decide +kernel
theorem dX11_refusalOfPageOn_43 : decode cX11_refusalOfPageOn 43 = .ok (.ireturn, 1) := by decide +kernel
theorem dX11_isShelf_0 : decode cX11_isShelf 0 = .ok (.iload_n 0, 1) := by decide +kernel
theorem dX11_isShelf_1 : decode cX11_isShelf 1 = .ok (.iconst 0, 1) := by decide +kernel
theorem dX11_isShelf_2 : decode cX11_isShelf 2 = .ok (.bipush 7, 2) := by decide +kernel
theorem dX11_isShelf_4 : decode cX11_isShelf 4 = .ok (.invokestatic 50, 3) := by decide +kernel
theorem dX11_isShelf_7 : decode cX11_isShelf 7 = .ok (.ireturn, 1) := by decide +kernel
theorem dX11_ruleIsAllowed_0 : decode cX11_ruleIsAllowed 0 = .ok (.iload_n 0, 1) := by decide +kernel
theorem dX11_ruleIsAllowed_1 : decode cX11_ruleIsAllowed 1 = .ok (.iconst 0, 1) := by decide +kernel
theorem dX11_ruleIsAllowed_2 : decode cX11_ruleIsAllowed 2 = .ok (.iconst 2, 1) := by decide +kernel
theorem dX11_ruleIsAllowed_3 : decode cX11_ruleIsAllowed 3 = .ok (.invokestatic 50, 3) := by decide +kernel
theorem dX11_ruleIsAllowed_6 : decode cX11_ruleIsAllowed 6 = .ok (.ifCond .eq 27, 3) := by decide +kernel
theorem dX11_ruleIsAllowed_9 : decode cX11_ruleIsAllowed 9 = .ok (.iload_n 1, 1) := by decide +kernel
theorem dX11_ruleIsAllowed_10 : decode cX11_ruleIsAllowed 10 = .ok (.iconst 0, 1) := by decide +kernel
theorem dX11_ruleIsAllowed_11 : decode cX11_ruleIsAllowed 11 = .ok (.bipush 50, 2) := by decide +kernel
theorem dX11_ruleIsAllowed_13 : decode cX11_ruleIsAllowed 13 = .ok (.invokestatic 50, 3) := by decide +kernel
theorem dX11_ruleIsAllowed_16 : decode cX11_ruleIsAllowed 16 = .ok (.ifCond .eq 17, 3) := by decide +kernel
theorem dX11_ruleIsAllowed_19 : decode cX11_ruleIsAllowed 19 = .ok (.iload_n 2, 1) := by decide +kernel
theorem dX11_ruleIsAllowed_20 : decode cX11_ruleIsAllowed 20 = .ok (.iconst 1, 1) := by decide +kernel
theorem dX11_ruleIsAllowed_21 : decode cX11_ruleIsAllowed 21 = .ok (.bipush 10, 2) := by decide +kernel
theorem dX11_ruleIsAllowed_23 : decode cX11_ruleIsAllowed 23 = .ok (.invokestatic 50, 3) := by decide +kernel
theorem dX11_ruleIsAllowed_26 : decode cX11_ruleIsAllowed 26 = .ok (.ifCond .eq 7, 3) := by decide +kernel
theorem dX11_ruleIsAllowed_29 : decode cX11_ruleIsAllowed 29 = .ok (.iconst 1, 1) := by decide +kernel
theorem dX11_ruleIsAllowed_30 : decode cX11_ruleIsAllowed 30 = .ok (.goto 4, 3) := by decide +kernel
theorem dX11_ruleIsAllowed_33 : decode cX11_ruleIsAllowed 33 = .ok (.iconst 0, 1) := by decide +kernel
theorem dX11_ruleIsAllowed_34 : decode cX11_ruleIsAllowed 34 = .ok (.ireturn, 1) := by decide +kernel
theorem dX11_within_0 : decode cX11_within 0 = .ok (.iload_n 1, 1) := by decide +kernel
theorem dX11_within_1 : decode cX11_within 1 = .ok (.iload_n 0, 1) := by decide +kernel
theorem dX11_within_2 : decode cX11_within 2 = .ok (.if_icmp .gt 12, 3) := by decide +kernel
theorem dX11_within_5 : decode cX11_within 5 = .ok (.iload_n 0, 1) := by decide +kernel
theorem dX11_within_6 : decode cX11_within 6 = .ok (.iload_n 2, 1) := by decide +kernel
theorem dX11_within_7 : decode cX11_within 7 = .ok (.if_icmp .gt 7, 3) := by decide +kernel
theorem dX11_within_10 : decode cX11_within 10 = .ok (.iconst 1, 1) := by decide +kernel
theorem dX11_within_11 : decode cX11_within 11 = .ok (.goto 4, 3) := by decide +kernel
theorem dX11_within_14 : decode cX11_within 14 = .ok (.iconst 0, 1) := by decide +kernel
theorem dX11_within_15 : decode cX11_within 15 = .ok (.ireturn, 1) := by decide +kernel
