theorem dX12_where_62 : decode cX12_where 62 = .ok (.goto 10, 3) := by decide +kernel
theorem dX12_where_65 : decode cX12_where 65 = .ok (.aload_n 0, 1) := by decide +kernel
theorem dX12_where_66 : decode cX12_where 66 = .ok (.getfield 79, 3) := by decide +kernel
theorem dX12_where_69 : decode cX12_where 69 = .ok (.iload 4, 2) := by decide +kernel
theorem dX12_where_71 : decode cX12_where 71 = .ok (.iaload, 1) := by decide +kernel
theorem dX12_where_72 : decode cX12_where 72 = .ok (.ireturn, 1) := by decide +kernel
theorem dX12_crowded_0 : decode cX12_crowded 0 = .ok (.iload_n 1, 1) := by decide +kernel
theorem dX12_crowded_1 : decode cX12_crowded 1 = .ok (.istore_n 3, 1) := by decide +kernel
theorem dX12_crowded_2 : decode cX12_crowded 2 = .ok (.iload_n 3, 1) := by decide +kernel
theorem dX12_crowded_3 : decode cX12_crowded 3 = .ok (.iload_n 2, 1) := by decide +kernel
theorem dX12_crowded_4 : decode cX12_crowded 4 = .ok (.if_icmp .eq 68, 3) := by decide +kernel
theorem dX12_crowded_7 : decode cX12_crowded 7 = .ok (.aload_n 0, 1) := by decide +kernel
theorem dX12_crowded_8 : decode cX12_crowded 8 = .ok (.iload_n 3, 1) := by decide +kernel
theorem dX12_crowded_9 : decode cX12_crowded 9 = .ok (.iload_n 2, 1) := by decide +kernel
theorem dX12_crowded_10 : decode cX12_crowded 10 = .ok (.invokevirtual 223, 3) := by decide +kernel
theorem dX12_crowded_13 : decode cX12_crowded 13 = .ok (.istore 4, 2) := by decide +kernel
theorem dX12_crowded_15 : decode cX12_crowded 15 = .ok (.iload_n 3, 1) := by decide +kernel
theorem dX12_crowded_16 : decode cX12_crowded 16 = .ok (.iload 4, 2) := by decide +kernel
theorem dX12_crowded_18 : decode cX12_crowded 18 = .ok (.if_icmp .ge 12, 3) := by decide +kernel
theorem dX12_crowded_21 : decode cX12_crowded 21 = .ok (.iconst 4, 1) := by decide +kernel
theorem dX12_crowded_22 : decode cX12_crowded 22 = .ok (.iload_n 3, 1) := by decide +kernel
theorem dX12_crowded_23 : decode cX12_crowded 23 = .ok (.imul, 1) := by decide +kernel
theorem dX12_crowded_24 : decode cX12_crowded 24 = .ok (.iload 4, 2) := by decide +kernel
theorem dX12_crowded_26 : decode cX12_crowded 26 = .ok (.iadd, 1) := by decide +kernel
theorem dX12_crowded_27 : decode cX12_crowded 27 = .ok (.goto 9, 3) := by decide +kernel
theorem dX12_crowded_30 : decode cX12_crowded 30 = .ok (.iconst 4, 1) := by decide +kernel
theorem dX12_crowded_31 : decode cX12_crowded 31 = .ok (.iload 4, 2) := by decide +kernel
theorem dX12_crowded_33 : decode cX12_crowded 33 = .ok (.imul, 1) := by decide +kernel
theorem dX12_crowded_34 : decode cX12_crowded 34 = .ok (.iload_n 3, 1) := by decide +kernel
theorem dX12_crowded_35 : decode cX12_crowded 35 = .ok (.iadd, 1) := by decide +kernel
theorem dX12_crowded_36 : decode cX12_crowded 36 = .ok (.istore 5, 2) := by decide +kernel
theorem dX12_crowded_38 : decode cX12_crowded 38 = .ok (.aload_n 0, 1) := by decide +kernel
theorem dX12_crowded_39 : decode cX12_crowded 39 = .ok (.getfield 136, 3) := by decide +kernel
theorem dX12_crowded_42 : decode cX12_crowded 42 = .ok (.bipush 16, 2) := by decide +kernel
theorem dX12_crowded_44 : decode cX12_crowded 44 = .ok (.aload_n 0, 1) := by decide +kernel
theorem dX12_crowded_45 : decode cX12_crowded 45 = .ok (.getfield 243, 3) := by decide +kernel
theorem dX12_crowded_48 : decode cX12_crowded 48 = .ok (.imul, 1) := by decide +kernel
theorem dX12_crowded_49 : decode cX12_crowded 49 = .ok (.iload 5, 2) := by decide +kernel
theorem dX12_crowded_51 : decode cX12_crowded 51 = .ok (.iadd, 1) := by decide +kernel
theorem dX12_crowded_52 : decode cX12_crowded 52 = .ok (.iaload, 1) := by decide +kernel
theorem dX12_crowded_53 : decode cX12_crowded 53 = .ok (.aload_n 0, 1) := by decide +kernel
theorem dX12_crowded_54 : decode cX12_crowded 54 = .ok (.getfield 13, 3) := by decide +kernel
theorem dX12_crowded_57 : decode cX12_crowded 57 = .ok (.iload 5, 2) := by decide +kernel
theorem dX12_crowded_59 : decode cX12_crowded 59 = .ok (.iaload, 1) := by decide +kernel
theorem dX12_crowded_60 : decode cX12_crowded 60 = .ok (.if_icmp .lt 6, 3) := by decide +kernel
theorem dX12_crowded_63 : decode cX12_crowded 63 = .ok (.iload 5, 2) := by decide +kernel
theorem dX12_crowded_65 : decode cX12_crowded 65 = .ok (.ireturn, 1) := by decide +kernel
theorem dX12_crowded_66 : decode cX12_crowded 66 = .ok (.iload 4, 2) := by decide +kernel
theorem dX12_crowded_68 : decode cX12_crowded 68 = .ok (.istore_n 3, 1) := by decide +kernel
theorem dX12_crowded_69 : decode cX12_crowded 69 = .ok (.goto (-67), 3) := by decide +kernel
theorem dX12_crowded_72 : decode cX12_crowded 72 = .ok (.iconst (-1), 1) := by decide +kernel
theorem dX12_crowded_73 : decode cX12_crowded 73 = .ok (.ireturn, 1) := by decide +kernel
theorem dX12_useLinks_0 : decode cX12_useLinks 0 = .ok (.iload_n 1, 1) := by decide +kernel
theorem dX12_useLinks_1 : decode cX12_useLinks 1 = .ok (.istore_n 3, 1) := by decide +kernel
theorem dX12_useLinks_2 : decode cX12_useLinks 2 = .ok (.iload_n 3, 1) := by decide +kernel
theorem dX12_useLinks_3 : decode cX12_useLinks 3 = .ok (.iload_n 2, 1) := by decide +kernel
theorem dX12_useLinks_4 : decode cX12_useLinks 4 = .ok (.if_icmp .eq 70, 3) := by decide +kernel
theorem dX12_useLinks_7 : decode cX12_useLinks 7 = .ok (.aload_n 0, 1) := by decide +kernel
theorem dX12_useLinks_8 : decode cX12_useLinks 8 = .ok (.iload_n 3, 1) := by decide +kernel
theorem dX12_useLinks_9 : decode cX12_useLinks 9 = .ok (.iload_n 2, 1) := by decide +kernel
theorem dX12_useLinks_10 : decode cX12_useLinks 10 = .ok (.invokevirtual 223, 3) := by decide +kernel
theorem dX12_useLinks_13 : decode cX12_useLinks 13 = .ok (.istore 4, 2) := by decide +kernel
theorem dX12_useLinks_15 : decode cX12_useLinks 15 = .ok (.bipush 16, 2) := by decide +kernel
theorem dX12_useLinks_17 : decode cX12_useLinks 17 = .ok (.aload_n 0, 1) := by decide +kernel
theorem dX12_useLinks_18 : decode cX12_useLinks 18 = .ok (.getfield 243, 3) := by decide +kernel
theorem dX12_useLinks_21 : decode cX12_useLinks 21 = .ok (.imul, 1) := by decide +kernel
theorem dX12_useLinks_22 : decode cX12_useLinks 22 = .ok (.iload_n 3, 1) := by decide +kernel
theorem dX12_useLinks_23 : decode cX12_useLinks 23 = .ok (.iload 4, 2) := by decide +kernel
theorem dX12_useLinks_25 : decode cX12_useLinks 25 = .ok (.if_icmp .ge 12, 3) := by decide +kernel
theorem dX12_useLinks_28 : decode cX12_useLinks 28 = .ok (.iconst 4, 1) := by decide +kernel
theorem dX12_useLinks_29 : decode cX12_useLinks 29 = .ok (.iload_n 3, 1) := by decide +kernel
theorem dX12_useLinks_30 : decode cX12_useLinks 30 = .ok (.imul, 1) := by decide +kernel
theorem dX12_useLinks_31 : decode cX12_useLinks 31 = .ok (.iload 4, 2) := by decide +kernel
theorem dX12_useLinks_33 : decode cX12_useLinks 33 = .ok (.iadd, 1) := by decide +kernel
theorem dX12_useLinks_34 : decode cX12_useLinks 34 = .ok (.goto 9, 3) := by decide +kernel
theorem dX12_useLinks_37 : decode cX12_useLinks 37 = .ok (.iconst 4, 1) := by decide +kernel
theorem dX12_useLinks_38 : decode cX12_useLinks 38 = .ok (.iload 4, 2) := by decide +kernel
theorem dX12_useLinks_40 : decode cX12_useLinks 40 = .ok (.imul, 1) := by decide +kernel
theorem dX12_useLinks_41 : decode cX12_useLinks 41 = .ok (.iload_n 3, 1) := by decide +kernel
theorem dX12_useLinks_42 : decode cX12_useLinks 42 = .ok (.iadd, 1) := by decide +kernel
theorem dX12_useLinks_43 : decode cX12_useLinks 43 = .ok (.iadd, 1) := by decide +kernel
theorem dX12_useLinks_44 : decode cX12_useLinks 44 = .ok (.istore 5, 2) := by decide +kernel
theorem dX12_useLinks_46 : decode cX12_useLinks 46 = .ok (.aload_n 0, 1) := by decide +kernel
theorem dX12_useLinks_47 : decode cX12_useLinks 47 = .ok (.getfield 136, 3) := by decide +kernel
theorem dX12_useLinks_50 : decode cX12_useLinks 50 = .ok (.iload 5, 2) := by decide +kernel
theorem dX12_useLinks_52 : decode cX12_useLinks 52 = .ok (.dup2, 1) := by decide +kernel
theorem dX12_useLinks_53 : decode cX12_useLinks 53 = .ok (.iaload, 1) := by decide +kernel
theorem dX12_useLinks_54 : decode cX12_useLinks 54 = .ok (.iconst 1, 1) := by decide +kernel
theorem dX12_useLinks_55 : decode cX12_useLinks 55 = .ok (.iadd, 1) := by decide +kernel
theorem dX12_useLinks_56 : decode cX12_useLinks 56 = .ok (.iastore, 1) := by decide +kernel
theorem dX12_useLinks_57 : decode cX12_useLinks 57 = .ok (.aload_n 0, 1) := by decide +kernel
theorem dX12_useLinks_58 : decode cX12_useLinks 58 = .ok (.getfield 139, 3) := by decide +kernel
theorem dX12_useLinks_61 : decode cX12_useLinks 61 = .ok (.iload 5, 2) := by decide +kernel
theorem dX12_useLinks_63 : decode cX12_useLinks 63 = .ok (.dup2, 1) := by decide +kernel
theorem dX12_useLinks_64 : decode cX12_useLinks 64 = .ok (.iaload, 1) := by decide +kernel
theorem dX12_useLinks_65 : decode cX12_useLinks 65 = .ok (.iconst 1, 1) := by decide +kernel
theorem dX12_useLinks_66 : decode cX12_useLinks 66 = .ok (.iadd, 1) := by decide +kernel
theorem dX12_useLinks_67 : decode cX12_useLinks 67 = .ok (.iastore, 1) := by decide +kernel
theorem dX12_useLinks_68 : decode cX12_useLinks 68 = .ok (.iload 4, 2) := by decide +kernel
theorem dX12_useLinks_70 : decode cX12_useLinks 70 = .ok (.istore_n 3, 1) := by decide +kernel
theorem dX12_useLinks_71 : decode cX12_useLinks 71 = .ok (.goto (-69), 3) := by decide +kernel
theorem dX12_useLinks_74 : decode cX12_useLinks 74 = .ok (.return_, 1) := by decide +kernel
theorem dX12_keepFault_0 : decode cX12_keepFault 0 = .ok (.aload_n 0, 1) := by decide +kernel
theorem dX12_keepFault_1 : decode cX12_keepFault 1 = .ok (.getfield 88, 3) := by decide +kernel
theorem dX12_keepFault_4 : decode cX12_keepFault 4 = .ok (.iload_n 1, 1) := by decide +kernel
theorem dX12_keepFault_5 : decode cX12_keepFault 5 = .ok (.iaload, 1) := by decide +kernel
theorem dX12_keepFault_6 : decode cX12_keepFault 6 = .ok (.iconst 4, 1) := by decide +kernel
theorem dX12_keepFault_7 : decode cX12_keepFault 7 = .ok (.if_icmp .ne 45, 3) := by decide +kernel
theorem dX12_keepFault_10 : decode cX12_keepFault 10 = .ok (.iconst 0, 1) := by decide +kernel
theorem dX12_keepFault_11 : decode cX12_keepFault 11 = .ok (.istore_n 3, 1) := by decide +kernel
theorem dX12_keepFault_12 : decode cX12_keepFault 12 = .ok (.iload_n 3, 1) := by decide +kernel
theorem dX12_keepFault_13 : decode cX12_keepFault 13 = .ok (.iconst 3, 1) := by decide +kernel
theorem dX12_keepFault_14 : decode cX12_keepFault 14 = .ok (.if_icmp .ge 31, 3) := by decide +kernel
theorem dX12_keepFault_17 : decode cX12_keepFault 17 = .ok (.aload_n 0, 1) := by decide +kernel
theorem dX12_keepFault_18 : decode cX12_keepFault 18 = .ok (.getfield 91, 3) := by decide +kernel
theorem dX12_keepFault_21 : decode cX12_keepFault 21 = .ok (.iconst 4, 1) := by decide +kernel
theorem dX12_keepFault_22 : decode cX12_keepFault 22 = .ok (.iload_n 1, 1) := by decide +kernel
theorem dX12_keepFault_23 : decode cX12_keepFault 23 = .ok (.imul, 1) := by decide +kernel
theorem dX12_keepFault_24 : decode cX12_keepFault 24 = .ok (.iload_n 3, 1) := by decide +kernel
theorem dX12_keepFault_25 : decode cX12_keepFault 25 = .ok (.iadd, 1) := by decide +kernel
theorem dX12_keepFault_26 : decode cX12_keepFault 26 = .ok (.aload_n 0, 1) := by decide +kernel
theorem dX12_keepFault_27 : decode cX12_keepFault 27 = .ok (.getfield 91, 3) := by decide +kernel
theorem dX12_keepFault_30 : decode cX12_keepFault 30 = .ok (.iconst 4, 1) := by decide +kernel
theorem dX12_keepFault_31 : decode cX12_keepFault 31 = .ok (.iload_n 1, 1) := by decide +kernel
theorem dX12_keepFault_32 : decode cX12_keepFault 32 = .ok (.imul, 1) := by decide +kernel
theorem dX12_keepFault_33 : decode cX12_keepFault 33 = .ok (.iload_n 3, 1) := by decide +kernel
theorem dX12_keepFault_34 : decode cX12_keepFault 34 = .ok (.iadd, 1) := by decide +kernel
theorem dX12_keepFault_35 : decode cX12_keepFault 35 = .ok (.iconst 1, 1) := by decide +kernel
theorem dX12_keepFault_36 : decode cX12_keepFault 36 = .ok (.iadd, 1) := by decide +kernel
theorem dX12_keepFault_37 : decode cX12_keepFault 37 = .ok (.iaload, 1) := by decide +kernel
theorem dX12_keepFault_38 : decode cX12_keepFault 38 = .ok (.iastore, 1) := by decide +kernel
theorem dX12_keepFault_39 : decode cX12_keepFault 39 = .ok (.iinc 3 1, 3) := by decide +kernel
theorem dX12_keepFault_42 : decode cX12_keepFault 42 = .ok (.goto (-30), 3) := by decide +kernel
theorem dX12_keepFault_45 : decode cX12_keepFault 45 = .ok (.aload_n 0, 1) := by decide +kernel
theorem dX12_keepFault_46 : decode cX12_keepFault 46 = .ok (.getfield 88, 3) := by decide +kernel
theorem dX12_keepFault_49 : decode cX12_keepFault 49 = .ok (.iload_n 1, 1) := by decide +kernel
theorem dX12_keepFault_50 : decode cX12_keepFault 50 = .ok (.iconst 3, 1) := by decide +kernel
theorem dX12_keepFault_51 : decode cX12_keepFault 51 = .ok (.iastore, 1) := by decide +kernel
theorem dX12_keepFault_52 : decode cX12_keepFault 52 = .ok (.aload_n 0, 1) := by decide +kernel
theorem dX12_keepFault_53 : decode cX12_keepFault 53 = .ok (.getfield 91, 3) := by decide +kernel
theorem dX12_keepFault_56 : decode cX12_keepFault 56 = .ok (.iconst 4, 1) := by decide +kernel
theorem dX12_keepFault_57 : decode cX12_keepFault 57 = .ok (.iload_n 1, 1) := by decide +kernel
theorem dX12_keepFault_58 : decode cX12_keepFault 58 = .ok (.imul, 1) := by decide +kernel
theorem dX12_keepFault_59 : decode cX12_keepFault 59 = .ok (.aload_n 0, 1) := by decide +kernel
theorem dX12_keepFault_60 : decode cX12_keepFault 60 = .ok (.getfield 88, 3) := by decide +kernel
theorem dX12_keepFault_63 : decode cX12_keepFault 63 = .ok (.iload_n 1, 1) := by decide +kernel
theorem dX12_keepFault_64 : decode cX12_keepFault 64 = .ok (.iaload, 1) := by decide +kernel
theorem dX12_keepFault_65 : decode cX12_keepFault 65 = .ok (.iadd, 1) := by decide +kernel
theorem dX12_keepFault_66 : decode cX12_keepFault 66 = .ok (.iload_n 2, 1) := by decide +kernel
theorem dX12_keepFault_67 : decode cX12_keepFault 67 = .ok (.iastore, 1) := by decide +kernel
theorem dX12_keepFault_68 : decode cX12_keepFault 68 = .ok (.aload_n 0, 1) := by decide +kernel
theorem dX12_keepFault_69 : decode cX12_keepFault 69 = .ok (.getfield 88, 3) := by decide +kernel
theorem dX12_keepFault_72 : decode cX12_keepFault 72 = .ok (.iload_n 1, 1) := by decide +kernel
theorem dX12_keepFault_73 : decode cX12_keepFault 73 = .ok (.dup2, 1) := by decide +kernel
theorem dX12_keepFault_74 : decode cX12_keepFault 74 = .ok (.iaload, 1) := by decide +kernel
theorem dX12_keepFault_75 : decode cX12_keepFault 75 = .ok (.iconst 1, 1) := by decide +kernel
theorem dX12_keepFault_76 : decode cX12_keepFault 76 = .ok (.iadd, 1) := by decide +kernel
theorem dX12_keepFault_77 : decode cX12_keepFault 77 = .ok (.iastore, 1) := by decide +kernel
theorem dX12_keepFault_78 : decode cX12_keepFault 78 = .ok (.return_, 1) := by decide +kernel
theorem dX12_wanted_0 : decode cX12_wanted 0 = .ok (.iconst 0, 1) := by decide +kernel
theorem dX12_wanted_1 : decode cX12_wanted 1 = .ok (.istore_n 2, 1) := by decide +kernel
theorem dX12_wanted_2 : decode cX12_wanted 2 = .ok (.iconst (-1), 1) := by decide +kernel
theorem dX12_wanted_3 : decode cX12_wanted 3 = .ok (.istore_n 3, 1) := by decide +kernel
theorem dX12_wanted_4 : decode cX12_wanted 4 = .ok (.iconst 0, 1) := by decide +kernel
theorem dX12_wanted_5 : decode cX12_wanted 5 = .ok (.istore 4, 2) := by decide +kernel
theorem dX12_wanted_7 : decode cX12_wanted 7 = .ok (.iload 4, 2) := by decide +kernel
theorem dX12_wanted_9 : decode cX12_wanted 9 = .ok (.aload_n 0, 1) := by decide +kernel
theorem dX12_wanted_10 : decode cX12_wanted 10 = .ok (.getfield 182, 3) := by decide +kernel
theorem dX12_wanted_13 : decode cX12_wanted 13 = .ok (.if_icmp .ge 84, 3) := by decide +kernel
theorem dX12_wanted_16 : decode cX12_wanted 16 = .ok (.iconst 0, 1) := by decide +kernel
theorem dX12_wanted_17 : decode cX12_wanted 17 = .ok (.istore 5, 2) := by decide +kernel
theorem dX12_wanted_19 : decode cX12_wanted 19 = .ok (.iconst 0, 1) := by decide +kernel
theorem dX12_wanted_20 : decode cX12_wanted 20 = .ok (.istore 6, 2) := by decide +kernel
theorem dX12_wanted_22 : decode cX12_wanted 22 = .ok (.iload 6, 2) := by decide +kernel
theorem dX12_wanted_24 : decode cX12_wanted 24 = .ok (.aload_n 0, 1) := by decide +kernel
theorem dX12_wanted_25 : decode cX12_wanted 25 = .ok (.getfield 88, 3) := by decide +kernel
theorem dX12_wanted_28 : decode cX12_wanted 28 = .ok (.iload_n 1, 1) := by decide +kernel
theorem dX12_wanted_29 : decode cX12_wanted 29 = .ok (.iaload, 1) := by decide +kernel
theorem dX12_wanted_30 : decode cX12_wanted 30 = .ok (.if_icmp .ge 35, 3) := by decide +kernel
theorem dX12_wanted_33 : decode cX12_wanted 33 = .ok (.iload 5, 2) := by decide +kernel
theorem dX12_wanted_35 : decode cX12_wanted 35 = .ok (.aload_n 0, 1) := by decide +kernel
theorem dX12_wanted_36 : decode cX12_wanted 36 = .ok (.getfield 91, 3) := by decide +kernel
theorem dX12_wanted_39 : decode cX12_wanted 39 = .ok (.iconst 4, 1) := by decide +kernel
theorem dX12_wanted_40 : decode cX12_wanted 40 = .ok (.iload_n 1, 1) := by decide +kernel
theorem dX12_wanted_41 : decode cX12_wanted 41 = .ok (.imul, 1) := by decide +kernel
theorem dX12_wanted_42 : decode cX12_wanted 42 = .ok (.iload 6, 2) := by decide +kernel
theorem dX12_wanted_44 : decode cX12_wanted 44 = .ok (.iadd, 1) := by decide +kernel
theorem dX12_wanted_45 : decode cX12_wanted 45 = .ok (.iaload, 1) := by decide +kernel
theorem dX12_wanted_46 : decode cX12_wanted 46 = .ok (.iload 4, 2) := by decide +kernel
theorem dX12_wanted_48 : decode cX12_wanted 48 = .ok (.if_icmp .ne 7, 3) := by decide +kernel
theorem dX12_wanted_51 : decode cX12_wanted 51 = .ok (.iconst 1, 1) := by decide +kernel
theorem dX12_wanted_52 : decode cX12_wanted 52 = .ok (.goto 4, 3) := by decide +kernel
theorem dX12_wanted_55 : decode cX12_wanted 55 = .ok (.iconst 0, 1) := by decide +kernel
theorem dX12_wanted_56 : decode cX12_wanted 56 = .ok (.iadd, 1) := by decide +kernel
theorem dX12_wanted_57 : decode cX12_wanted 57 = .ok (.istore 5, 2) := by decide +kernel
theorem dX12_wanted_59 : decode cX12_wanted 59 = .ok (.iinc 6 1, 3) := by decide +kernel
theorem dX12_wanted_62 : decode cX12_wanted 62 = .ok (.goto (-40), 3) := by decide +kernel
theorem dX12_wanted_65 : decode cX12_wanted 65 = .ok (.iload 5, 2) := by decide +kernel
theorem dX12_wanted_67 : decode cX12_wanted 67 = .ok (.iload_n 3, 1) := by decide +kernel
theorem dX12_wanted_68 : decode cX12_wanted 68 = .ok (.if_icmp .le 8, 3) := by decide +kernel
theorem dX12_wanted_71 : decode cX12_wanted 71 = .ok (.iload 4, 2) := by decide +kernel
theorem dX12_wanted_73 : decode cX12_wanted 73 = .ok (.goto 4, 3) := by decide +kernel
theorem dX12_wanted_76 : decode cX12_wanted 76 = .ok (.iload_n 2, 1) := by decide +kernel
theorem dX12_wanted_77 : decode cX12_wanted 77 = .ok (.istore_n 2, 1) := by decide +kernel
theorem dX12_wanted_78 : decode cX12_wanted 78 = .ok (.iload 5, 2) := by decide +kernel
theorem dX12_wanted_80 : decode cX12_wanted 80 = .ok (.iload_n 3, 1) := by decide +kernel
theorem dX12_wanted_81 : decode cX12_wanted 81 = .ok (.if_icmp .le 8, 3) := by decide +kernel
theorem dX12_wanted_84 : decode cX12_wanted 84 = .ok (.iload 5, 2) := by decide +kernel
theorem dX12_wanted_86 : decode cX12_wanted 86 = .ok (.goto 4, 3) := by decide +kernel
theorem dX12_wanted_89 : decode cX12_wanted 89 = .ok (.iload_n 3, 1) := by decide +kernel
theorem dX12_wanted_90 : decode cX12_wanted 90 = .ok (.istore_n 3, 1) := by decide +kernel
theorem dX12_wanted_91 : decode cX12_wanted 91 = .ok (.iinc 4 1, 3) := by decide +kernel
theorem dX12_wanted_94 : decode cX12_wanted 94 = .ok (.goto (-87), 3) := by decide +kernel
theorem dX12_wanted_97 : decode cX12_wanted 97 = .ok (.iload_n 2, 1) := by decide +kernel
theorem dX12_wanted_98 : decode cX12_wanted 98 = .ok (.ireturn, 1) := by decide +kernel
theorem dX12_pays_0 : decode cX12_pays 0 = .ok (.iconst 0, 1) := by decide +kernel
theorem dX12_pays_1 : decode cX12_pays 1 = .ok (.istore_n 3, 1) := by decide +kernel
theorem dX12_pays_2 : decode cX12_pays 2 = .ok (.iconst 1, 1) := by decide +kernel
theorem dX12_pays_3 : decode cX12_pays 3 = .ok (.istore 4, 2) := by decide +kernel
theorem dX12_pays_5 : decode cX12_pays 5 = .ok (.iconst 0, 1) := by decide +kernel
theorem dX12_pays_6 : decode cX12_pays 6 = .ok (.istore 5, 2) := by decide +kernel
theorem dX12_pays_8 : decode cX12_pays 8 = .ok (.iload 5, 2) := by decide +kernel
theorem dX12_pays_10 : decode cX12_pays 10 = .ok (.aload_n 0, 1) := by decide +kernel
theorem dX12_pays_11 : decode cX12_pays 11 = .ok (.getfield 88, 3) := by decide +kernel
theorem dX12_pays_14 : decode cX12_pays 14 = .ok (.iload_n 1, 1) := by decide +kernel
theorem dX12_pays_15 : decode cX12_pays 15 = .ok (.iaload, 1) := by decide +kernel
theorem dX12_pays_16 : decode cX12_pays 16 = .ok (.if_icmp .ge 90, 3) := by decide +kernel
theorem dX12_pays_19 : decode cX12_pays 19 = .ok (.aload_n 0, 1) := by decide +kernel
theorem dX12_pays_20 : decode cX12_pays 20 = .ok (.getfield 91, 3) := by decide +kernel
theorem dX12_pays_23 : decode cX12_pays 23 = .ok (.iconst 4, 1) := by decide +kernel
theorem dX12_pays_24 : decode cX12_pays 24 = .ok (.iload_n 1, 1) := by decide +kernel
theorem dX12_pays_25 : decode cX12_pays 25 = .ok (.imul, 1) := by decide +kernel
theorem dX12_pays_26 : decode cX12_pays 26 = .ok (.iload 5, 2) := by decide +kernel
theorem dX12_pays_28 : decode cX12_pays 28 = .ok (.iadd, 1) := by decide +kernel
theorem dX12_pays_29 : decode cX12_pays 29 = .ok (.iaload, 1) := by decide +kernel
theorem dX12_pays_30 : decode cX12_pays 30 = .ok (.istore 6, 2) := by decide +kernel
theorem dX12_pays_32 : decode cX12_pays 32 = .ok (.iload 4, 2) := by decide +kernel
theorem dX12_pays_34 : decode cX12_pays 34 = .ok (.ifCond .eq 32, 3) := by decide +kernel
theorem dX12_pays_37 : decode cX12_pays 37 = .ok (.aload_n 0, 1) := by decide +kernel
theorem dX12_pays_38 : decode cX12_pays 38 = .ok (.iload 6, 2) := by decide +kernel
theorem dX12_pays_40 : decode cX12_pays 40 = .ok (.aload_n 0, 1) := by decide +kernel
theorem dX12_pays_41 : decode cX12_pays 41 = .ok (.getfield 79, 3) := by decide +kernel
theorem dX12_pays_44 : decode cX12_pays 44 = .ok (.iload_n 1, 1) := by decide +kernel
theorem dX12_pays_45 : decode cX12_pays 45 = .ok (.iaload, 1) := by decide +kernel
theorem dX12_pays_46 : decode cX12_pays 46 = .ok (.invokevirtual 220, 3) := by decide +kernel
theorem dX12_pays_49 : decode cX12_pays 49 = .ok (.ifCond .eq 17, 3) := by decide +kernel
theorem dX12_pays_52 : decode cX12_pays 52 = .ok (.aload_n 0, 1) := by decide +kernel
theorem dX12_pays_53 : decode cX12_pays 53 = .ok (.iload 6, 2) := by decide +kernel
theorem dX12_pays_55 : decode cX12_pays 55 = .ok (.iload_n 2, 1) := by decide +kernel
theorem dX12_pays_56 : decode cX12_pays 56 = .ok (.invokevirtual 220, 3) := by decide +kernel
theorem dX12_pays_59 : decode cX12_pays 59 = .ok (.ifCond .eq 7, 3) := by decide +kernel
theorem dX12_pays_62 : decode cX12_pays 62 = .ok (.iconst 1, 1) := by decide +kernel
theorem dX12_pays_63 : decode cX12_pays 63 = .ok (.goto 4, 3) := by decide +kernel
theorem dX12_pays_66 : decode cX12_pays 66 = .ok (.iconst 0, 1) := by decide +kernel
theorem dX12_pays_67 : decode cX12_pays 67 = .ok (.istore 4, 2) := by decide +kernel
theorem dX12_pays_69 : decode cX12_pays 69 = .ok (.iload_n 3, 1) := by decide +kernel
theorem dX12_pays_70 : decode cX12_pays 70 = .ok (.aload_n 0, 1) := by decide +kernel
theorem dX12_pays_71 : decode cX12_pays 71 = .ok (.getfield 16, 3) := by decide +kernel
theorem dX12_pays_74 : decode cX12_pays 74 = .ok (.iconst 4, 1) := by decide +kernel
theorem dX12_pays_75 : decode cX12_pays 75 = .ok (.iload 6, 2) := by decide +kernel
theorem dX12_pays_77 : decode cX12_pays 77 = .ok (.imul, 1) := by decide +kernel
theorem dX12_pays_78 : decode cX12_pays 78 = .ok (.aload_n 0, 1) := by decide +kernel
theorem dX12_pays_79 : decode cX12_pays 79 = .ok (.getfield 79, 3) := by decide +kernel
theorem dX12_pays_82 : decode cX12_pays 82 = .ok (.iload_n 1, 1) := by decide +kernel
theorem dX12_pays_83 : decode cX12_pays 83 = .ok (.iaload, 1) := by decide +kernel
theorem dX12_pays_84 : decode cX12_pays 84 = .ok (.iadd, 1) := by decide +kernel
theorem dX12_pays_85 : decode cX12_pays 85 = .ok (.iaload, 1) := by decide +kernel
theorem dX12_pays_86 : decode cX12_pays 86 = .ok (.aload_n 0, 1) := by decide +kernel
theorem dX12_pays_87 : decode cX12_pays 87 = .ok (.getfield 16, 3) := by decide +kernel
theorem dX12_pays_90 : decode cX12_pays 90 = .ok (.iconst 4, 1) := by decide +kernel
theorem dX12_pays_91 : decode cX12_pays 91 = .ok (.iload 6, 2) := by decide +kernel
theorem dX12_pays_93 : decode cX12_pays 93 = .ok (.imul, 1) := by decide +kernel
theorem dX12_pays_94 : decode cX12_pays 94 = .ok (.iload_n 2, 1) := by decide +kernel
theorem dX12_pays_95 : decode cX12_pays 95 = .ok (.iadd, 1) := by decide +kernel
theorem dX12_pays_96 : decode cX12_pays 96 = .ok (.iaload, 1) := by decide +kernel
theorem dX12_pays_97 : decode cX12_pays 97 = .ok (.isub, 1) := by decide +kernel
theorem dX12_pays_98 : decode cX12_pays 98 = .ok (.iadd, 1) := by decide +kernel
theorem dX12_pays_99 : decode cX12_pays 99 = .ok (.istore_n 3, 1) := by decide +kernel
theorem dX12_pays_100 : decode cX12_pays 100 = .ok (.iinc 5 1, 3) := by decide +kernel
theorem dX12_pays_103 : decode cX12_pays 103 = .ok (.goto (-95), 3) := by decide +kernel
theorem dX12_pays_106 : decode cX12_pays 106 = .ok (.iload 4, 2) := by decide +kernel
theorem dX12_pays_108 : decode cX12_pays 108 = .ok (.ifCond .eq 25, 3) := by decide +kernel
theorem dX12_pays_111 : decode cX12_pays 111 = .ok (.iload_n 3, 1) := by decide +kernel
theorem dX12_pays_112 : decode cX12_pays 112 = .ok (.aload_n 0, 1) := by decide +kernel
theorem dX12_pays_113 : decode cX12_pays 113 = .ok (.getfield 51, 3) := by decide +kernel
theorem dX12_pays_116 : decode cX12_pays 116 = .ok (.aload_n 0, 1) := by decide +kernel
theorem dX12_pays_117 : decode cX12_pays 117 = .ok (.getfield 243, 3) := by decide +kernel
theorem dX12_pays_120 : decode cX12_pays 120 = .ok (.iaload, 1) := by decide +kernel
theorem dX12_pays_121 : decode cX12_pays 121 = .ok (.imul, 1) := by decide +kernel
theorem dX12_pays_122 : decode cX12_pays 122 = .ok (.aload_n 0, 1) := by decide +kernel
theorem dX12_pays_123 : decode cX12_pays 123 = .ok (.getfield 42, 3) := by decide +kernel
theorem dX12_pays_126 : decode cX12_pays 126 = .ok (.if_icmp .le 7, 3) := by decide +kernel
theorem dX12_pays_129 : decode cX12_pays 129 = .ok (.iconst 1, 1) := by decide +kernel
theorem dX12_pays_130 : decode cX12_pays 130 = .ok (.goto 4, 3) := by decide +kernel
theorem dX12_pays_133 : decode cX12_pays 133 = .ok (.iconst 0, 1) := by decide +kernel
theorem dX12_pays_134 : decode cX12_pays 134 = .ok (.ireturn, 1) := by decide +kernel
theorem dX12_faulted_0 : decode cX12_faulted 0 = .ok (.bipush 20, 2) := by decide +kernel
theorem dX12_faulted_2 : decode cX12_faulted 2 = .ok (.aload_n 0, 1) := by decide +kernel
theorem dX12_faulted_3 : decode cX12_faulted 3 = .ok (.getfield 243, 3) := by decide +kernel
theorem dX12_faulted_6 : decode cX12_faulted 6 = .ok (.imul, 1) := by decide +kernel
theorem dX12_faulted_7 : decode cX12_faulted 7 = .ok (.iload_n 1, 1) := by decide +kernel
theorem dX12_faulted_8 : decode cX12_faulted 8 = .ok (.iadd, 1) := by decide +kernel
theorem dX12_faulted_9 : decode cX12_faulted 9 = .ok (.istore_n 3, 1) := by decide +kernel
theorem dX12_faulted_10 : decode cX12_faulted 10 = .ok (.aload_n 0, 1) := by decide +kernel
theorem dX12_faulted_11 : decode cX12_faulted 11 = .ok (.getfield 85, 3) := by decide +kernel
theorem dX12_faulted_14 : decode cX12_faulted 14 = .ok (.iload_n 3, 1) := by decide +kernel
theorem dX12_faulted_15 : decode cX12_faulted 15 = .ok (.iconst 0, 1) := by decide +kernel
theorem dX12_faulted_16 : decode cX12_faulted 16 = .ok (.bastore, 1) := by decide +kernel
theorem dX12_faulted_17 : decode cX12_faulted 17 = .ok (.aload_n 0, 1) := by decide +kernel
theorem dX12_faulted_18 : decode cX12_faulted 18 = .ok (.iconst 1, 1) := by decide +kernel
theorem dX12_faulted_19 : decode cX12_faulted 19 = .ok (.putfield 264, 3) := by decide +kernel
theorem dX12_faulted_22 : decode cX12_faulted 22 = .ok (.aload_n 0, 1) := by decide +kernel
theorem dX12_faulted_23 : decode cX12_faulted 23 = .ok (.getfield 67, 3) := by decide +kernel
theorem dX12_faulted_26 : decode cX12_faulted 26 = .ok (.aload_n 0, 1) := by decide +kernel
theorem dX12_faulted_27 : decode cX12_faulted 27 = .ok (.getfield 243, 3) := by decide +kernel
theorem dX12_faulted_30 : decode cX12_faulted 30 = .ok (.dup2, 1) := by decide +kernel
theorem dX12_faulted_31 : decode cX12_faulted 31 = .ok (.iaload, 1) := by decide +kernel
theorem dX12_faulted_32 : decode cX12_faulted 32 = .ok (.iconst 1, 1) := by decide +kernel
theorem dX12_faulted_33 : decode cX12_faulted 33 = .ok (.iadd, 1) := by decide +kernel
theorem dX12_faulted_34 : decode cX12_faulted 34 = .ok (.iastore, 1) := by decide +kernel
theorem dX12_faulted_35 : decode cX12_faulted 35 = .ok (.aload_n 0, 1) := by decide +kernel
theorem dX12_faulted_36 : decode cX12_faulted 36 = .ok (.iload_n 3, 1) := by decide +kernel
theorem dX12_faulted_37 : decode cX12_faulted 37 = .ok (.iload_n 2, 1) := by decide +kernel
theorem dX12_faulted_38 : decode cX12_faulted 38 = .ok (.invokevirtual 268, 3) := by decide +kernel
theorem dX12_faulted_41 : decode cX12_faulted 41 = .ok (.aload_n 0, 1) := by decide +kernel
theorem dX12_faulted_42 : decode cX12_faulted 42 = .ok (.iload_n 3, 1) := by decide +kernel
theorem dX12_faulted_43 : decode cX12_faulted 43 = .ok (.invokevirtual 272, 3) := by decide +kernel
theorem dX12_faulted_46 : decode cX12_faulted 46 = .ok (.istore 4, 2) := by decide +kernel
theorem dX12_faulted_48 : decode cX12_faulted 48 = .ok (.aload_n 0, 1) := by decide +kernel
theorem dX12_faulted_49 : decode cX12_faulted 49 = .ok (.getfield 19, 3) := by decide +kernel
theorem dX12_faulted_52 : decode cX12_faulted 52 = .ok (.iload_n 1, 1) := by decide +kernel
theorem dX12_faulted_53 : decode cX12_faulted 53 = .ok (.iaload, 1) := by decide +kernel
theorem dX12_faulted_54 : decode cX12_faulted 54 = .ok (.ifCond .ne 79, 3) := by decide +kernel
theorem dX12_faulted_57 : decode cX12_faulted 57 = .ok (.iload 4, 2) := by decide +kernel
theorem dX12_faulted_59 : decode cX12_faulted 59 = .ok (.aload_n 0, 1) := by decide +kernel
theorem dX12_faulted_60 : decode cX12_faulted 60 = .ok (.getfield 79, 3) := by decide +kernel
theorem dX12_faulted_63 : decode cX12_faulted 63 = .ok (.iload_n 3, 1) := by decide +kernel
theorem dX12_faulted_64 : decode cX12_faulted 64 = .ok (.iaload, 1) := by decide +kernel
theorem dX12_faulted_65 : decode cX12_faulted 65 = .ok (.if_icmp .eq 68, 3) := by decide +kernel
theorem dX12_faulted_68 : decode cX12_faulted 68 = .ok (.aload_n 0, 1) := by decide +kernel
theorem dX12_faulted_69 : decode cX12_faulted 69 = .ok (.iload_n 3, 1) := by decide +kernel
theorem dX12_faulted_70 : decode cX12_faulted 70 = .ok (.iload 4, 2) := by decide +kernel
theorem dX12_faulted_72 : decode cX12_faulted 72 = .ok (.invokevirtual 275, 3) := by decide +kernel
theorem dX12_faulted_75 : decode cX12_faulted 75 = .ok (.ifCond .eq 58, 3) := by decide +kernel
theorem dX12_faulted_78 : decode cX12_faulted 78 = .ok (.aload_n 0, 1) := by decide +kernel
theorem dX12_faulted_79 : decode cX12_faulted 79 = .ok (.iload 4, 2) := by decide +kernel
theorem dX12_faulted_81 : decode cX12_faulted 81 = .ok (.invokevirtual 250, 3) := by decide +kernel
theorem dX12_faulted_84 : decode cX12_faulted 84 = .ok (.ifCond .eq 49, 3) := by decide +kernel
theorem dX12_faulted_87 : decode cX12_faulted 87 = .ok (.aload_n 0, 1) := by decide +kernel
theorem dX12_faulted_88 : decode cX12_faulted 88 = .ok (.getfield 79, 3) := by decide +kernel
theorem dX12_faulted_91 : decode cX12_faulted 91 = .ok (.iload_n 3, 1) := by decide +kernel
theorem dX12_faulted_92 : decode cX12_faulted 92 = .ok (.iload 4, 2) := by decide +kernel
theorem dX12_faulted_94 : decode cX12_faulted 94 = .ok (.iastore, 1) := by decide +kernel
theorem dX12_faulted_95 : decode cX12_faulted 95 = .ok (.aload_n 0, 1) := by decide +kernel
theorem dX12_faulted_96 : decode cX12_faulted 96 = .ok (.getfield 94, 3) := by decide +kernel
theorem dX12_faulted_99 : decode cX12_faulted 99 = .ok (.iload_n 3, 1) := by decide +kernel
theorem dX12_faulted_100 : decode cX12_faulted 100 = .ok (.dup2, 1) := by decide +kernel
theorem dX12_faulted_101 : decode cX12_faulted 101 = .ok (.iaload, 1) := by decide +kernel
theorem dX12_faulted_102 : decode cX12_faulted 102 = .ok (.iconst 1, 1) := by decide +kernel
theorem dX12_faulted_103 : decode cX12_faulted 103 = .ok (.iadd, 1) := by decide +kernel
theorem dX12_faulted_104 : decode cX12_faulted 104 = .ok (.iastore, 1) := by decide +kernel
theorem dX12_faulted_105 : decode cX12_faulted 105 = .ok (.aload_n 0, 1) := by decide +kernel
theorem dX12_faulted_106 : decode cX12_faulted 106 = .ok (.getfield 70, 3) := by decide +kernel
theorem dX12_faulted_109 : decode cX12_faulted 109 = .ok (.aload_n 0, 1) := by decide +kernel
theorem dX12_faulted_110 : decode cX12_faulted 110 = .ok (.getfield 243, 3) := by decide +kernel
theorem dX12_faulted_113 : decode cX12_faulted 113 = .ok (.dup2, 1) := by decide +kernel
theorem dX12_faulted_114 : decode cX12_faulted 114 = .ok (.iaload, 1) := by decide +kernel
theorem dX12_faulted_115 : decode cX12_faulted 115 = .ok (.iconst 1, 1) := by decide +kernel
theorem dX12_faulted_116 : decode cX12_faulted 116 = .ok (.iadd, 1) := by decide +kernel
theorem dX12_faulted_117 : decode cX12_faulted 117 = .ok (.iastore, 1) := by decide +kernel
theorem dX12_faulted_118 : decode cX12_faulted 118 = .ok (.aload_n 0, 1) := by decide +kernel
theorem dX12_faulted_119 : decode cX12_faulted 119 = .ok (.iconst 1, 1) := by decide +kernel
theorem dX12_faulted_120 : decode cX12_faulted 120 = .ok (.putfield 278, 3) := by decide +kernel
theorem dX12_faulted_123 : decode cX12_faulted 123 = .ok (.aload_n 0, 1) := by decide +kernel
theorem dX12_faulted_124 : decode cX12_faulted 124 = .ok (.getfield 38, 3) := by decide +kernel
theorem dX12_faulted_127 : decode cX12_faulted 127 = .ok (.aload_n 0, 1) := by decide +kernel
theorem dX12_faulted_128 : decode cX12_faulted 128 = .ok (.getfield 42, 3) := by decide +kernel
theorem dX12_faulted_131 : decode cX12_faulted 131 = .ok (.iadd, 1) := by decide +kernel
theorem dX12_faulted_132 : decode cX12_faulted 132 = .ok (.ireturn, 1) := by decide +kernel
theorem dX12_faulted_133 : decode cX12_faulted 133 = .ok (.aload_n 0, 1) := by decide +kernel
theorem dX12_faulted_134 : decode cX12_faulted 134 = .ok (.getfield 38, 3) := by decide +kernel
theorem dX12_faulted_137 : decode cX12_faulted 137 = .ok (.ireturn, 1) := by decide +kernel
theorem dX12_countBits_0 : decode cX12_countBits 0 = .ok (.iload_n 1, 1) := by decide +kernel
theorem dX12_countBits_1 : decode cX12_countBits 1 = .ok (.iconst 1, 1) := by decide +kernel
theorem dX12_countBits_2 : decode cX12_countBits 2 = .ok (.iand, 1) := by decide +kernel
theorem dX12_countBits_3 : decode cX12_countBits 3 = .ok (.iload_n 1, 1) := by decide +kernel
theorem dX12_countBits_4 : decode cX12_countBits 4 = .ok (.iconst 1, 1) := by decide +kernel
theorem dX12_countBits_5 : decode cX12_countBits 5 = .ok (.ishr, 1) := by decide +kernel
theorem dX12_countBits_6 : decode cX12_countBits 6 = .ok (.iconst 1, 1) := by decide +kernel
theorem dX12_countBits_7 : decode cX12_countBits 7 = .ok (.iand, 1) := by decide +kernel
theorem dX12_countBits_8 : decode cX12_countBits 8 = .ok (.iadd, 1) := by decide +kernel
theorem dX12_countBits_9 : decode cX12_countBits 9 = .ok (.iload_n 1, 1) := by decide +kernel
theorem dX12_countBits_10 : decode cX12_countBits 10 = .ok (.iconst 2, 1) := by decide +kernel
theorem dX12_countBits_11 : decode cX12_countBits 11 = .ok (.ishr, 1) := by decide +kernel
theorem dX12_countBits_12 : decode cX12_countBits 12 = .ok (.iconst 1, 1) := by decide +kernel
theorem dX12_countBits_13 : decode cX12_countBits 13 = .ok (.iand, 1) := by decide +kernel
theorem dX12_countBits_14 : decode cX12_countBits 14 = .ok (.iadd, 1) := by decide +kernel
theorem dX12_countBits_15 : decode cX12_countBits 15 = .ok (.iload_n 1, 1) := by decide +kernel
theorem dX12_countBits_16 : decode cX12_countBits 16 = .ok (.iconst 3, 1) := by decide +kernel
theorem dX12_countBits_17 : decode cX12_countBits 17 = .ok (.ishr, 1) := by decide +kernel
theorem dX12_countBits_18 : decode cX12_countBits 18 = .ok (.iconst 1, 1) := by decide +kernel
theorem dX12_countBits_19 : decode cX12_countBits 19 = .ok (.iand, 1) := by decide +kernel
theorem dX12_countBits_20 : decode cX12_countBits 20 = .ok (.iadd, 1) := by decide +kernel
theorem dX12_countBits_21 : decode cX12_countBits 21 = .ok (.ireturn, 1) := by decide +kernel
theorem dX12_copied_0 : decode cX12_copied 0 = .ok (.bipush 20, 2) := by decide +kernel
theorem dX12_copied_2 : decode cX12_copied 2 = .ok (.aload_n 0, 1) := by decide +kernel
theorem dX12_copied_3 : decode cX12_copied 3 = .ok (.getfield 243, 3) := by decide +kernel
theorem dX12_copied_6 : decode cX12_copied 6 = .ok (.imul, 1) := by decide +kernel
theorem dX12_copied_7 : decode cX12_copied 7 = .ok (.iload_n 1, 1) := by decide +kernel
theorem dX12_copied_8 : decode cX12_copied 8 = .ok (.iadd, 1) := by decide +kernel
theorem dX12_copied_9 : decode cX12_copied 9 = .ok (.istore 4, 2) := by decide +kernel
theorem dX12_copied_11 : decode cX12_copied 11 = .ok (.aload_n 0, 1) := by decide +kernel
theorem dX12_copied_12 : decode cX12_copied 12 = .ok (.getfield 79, 3) := by decide +kernel
theorem dX12_copied_15 : decode cX12_copied 15 = .ok (.iload 4, 2) := by decide +kernel
theorem dX12_copied_17 : decode cX12_copied 17 = .ok (.iaload, 1) := by decide +kernel
theorem dX12_copied_18 : decode cX12_copied 18 = .ok (.iload_n 2, 1) := by decide +kernel
theorem dX12_copied_19 : decode cX12_copied 19 = .ok (.if_icmp .ne 7, 3) := by decide +kernel
theorem dX12_copied_22 : decode cX12_copied 22 = .ok (.iconst 1, 1) := by decide +kernel
theorem dX12_copied_23 : decode cX12_copied 23 = .ok (.goto 4, 3) := by decide +kernel
theorem dX12_copied_26 : decode cX12_copied 26 = .ok (.iconst 0, 1) := by decide +kernel
theorem dX12_copied_27 : decode cX12_copied 27 = .ok (.istore 5, 2) := by decide +kernel
theorem dX12_copied_29 : decode cX12_copied 29 = .ok (.aload_n 0, 1) := by decide +kernel
theorem dX12_copied_30 : decode cX12_copied 30 = .ok (.getfield 82, 3) := by decide +kernel
theorem dX12_copied_33 : decode cX12_copied 33 = .ok (.iload 4, 2) := by decide +kernel
theorem dX12_copied_35 : decode cX12_copied 35 = .ok (.iaload, 1) := by decide +kernel
theorem dX12_copied_36 : decode cX12_copied 36 = .ok (.iload_n 2, 1) := by decide +kernel
theorem dX12_copied_37 : decode cX12_copied 37 = .ok (.ishr, 1) := by decide +kernel
theorem dX12_copied_38 : decode cX12_copied 38 = .ok (.iconst 1, 1) := by decide +kernel
theorem dX12_copied_39 : decode cX12_copied 39 = .ok (.iand, 1) := by decide +kernel
theorem dX12_copied_40 : decode cX12_copied 40 = .ok (.iconst 1, 1) := by decide +kernel
theorem dX12_copied_41 : decode cX12_copied 41 = .ok (.if_icmp .ne 7, 3) := by decide +kernel
theorem dX12_copied_44 : decode cX12_copied 44 = .ok (.iconst 1, 1) := by decide +kernel
theorem dX12_copied_45 : decode cX12_copied 45 = .ok (.goto 4, 3) := by decide +kernel
theorem dX12_copied_48 : decode cX12_copied 48 = .ok (.iconst 0, 1) := by decide +kernel
theorem dX12_copied_49 : decode cX12_copied 49 = .ok (.istore 6, 2) := by decide +kernel
theorem dX12_copied_51 : decode cX12_copied 51 = .ok (.iload_n 3, 1) := by decide +kernel
theorem dX12_copied_52 : decode cX12_copied 52 = .ok (.ifCond .ne 38, 3) := by decide +kernel
theorem dX12_copied_55 : decode cX12_copied 55 = .ok (.iload 5, 2) := by decide +kernel
theorem dX12_copied_57 : decode cX12_copied 57 = .ok (.ifCond .ne 16, 3) := by decide +kernel
theorem dX12_copied_60 : decode cX12_copied 60 = .ok (.iload 6, 2) := by decide +kernel
theorem dX12_copied_62 : decode cX12_copied 62 = .ok (.ifCond .ne 11, 3) := by decide +kernel
theorem dX12_copied_65 : decode cX12_copied 65 = .ok (.aload_n 0, 1) := by decide +kernel
theorem dX12_copied_66 : decode cX12_copied 66 = .ok (.iload_n 2, 1) := by decide +kernel
theorem dX12_copied_67 : decode cX12_copied 67 = .ok (.invokevirtual 250, 3) := by decide +kernel
theorem dX12_copied_70 : decode cX12_copied 70 = .ok (.ifCond .ne 5, 3) := by decide +kernel
theorem dX12_copied_73 : decode cX12_copied 73 = .ok (.iconst 0, 1) := by decide +kernel
theorem dX12_copied_74 : decode cX12_copied 74 = .ok (.ireturn, 1) := by decide +kernel
theorem dX12_copied_75 : decode cX12_copied 75 = .ok (.aload_n 0, 1) := by decide +kernel
theorem dX12_copied_76 : decode cX12_copied 76 = .ok (.getfield 82, 3) := by decide +kernel
theorem dX12_copied_79 : decode cX12_copied 79 = .ok (.iload 4, 2) := by decide +kernel
theorem dX12_copied_81 : decode cX12_copied 81 = .ok (.dup2, 1) := by decide +kernel
theorem dX12_copied_82 : decode cX12_copied 82 = .ok (.iaload, 1) := by decide +kernel
theorem dX12_copied_83 : decode cX12_copied 83 = .ok (.iconst 1, 1) := by decide +kernel
theorem dX12_copied_84 : decode cX12_copied 84 = .ok (.iload_n 2, 1) := by decide +kernel
theorem dX12_copied_85 : decode cX12_copied 85 = .ok (.ishl, 1) := by decide +kernel
theorem dX12_copied_86 : decode cX12_copied 86 = .ok (.ior, 1) := by decide +kernel
theorem dX12_copied_87 : decode cX12_copied 87 = .ok (.iastore, 1) := by decide +kernel
theorem dX12_copied_88 : decode cX12_copied 88 = .ok (.iconst 1, 1) := by decide +kernel
theorem dX12_copied_89 : decode cX12_copied 89 = .ok (.ireturn, 1) := by decide +kernel
theorem dX12_copied_90 : decode cX12_copied 90 = .ok (.aload_n 0, 1) := by decide +kernel
theorem dX12_copied_91 : decode cX12_copied 91 = .ok (.aload_n 0, 1) := by decide +kernel
theorem dX12_copied_92 : decode cX12_copied 92 = .ok (.getfield 82, 3) := by decide +kernel
theorem dX12_copied_95 : decode cX12_copied 95 = .ok (.iload 4, 2) := by decide +kernel
theorem dX12_copied_97 : decode cX12_copied 97 = .ok (.iaload, 1) := by decide +kernel
theorem dX12_copied_98 : decode cX12_copied 98 = .ok (.iconst 1, 1) := by decide +kernel
theorem dX12_copied_99 : decode cX12_copied 99 = .ok (.iload_n 2, 1) := by decide +kernel
theorem dX12_copied_100 : decode cX12_copied 100 = .ok (.ishl, 1) := by decide +kernel
theorem dX12_copied_101 : decode cX12_copied 101 = .ok (.iconst (-1), 1) := by decide +kernel
theorem dX12_copied_102 : decode cX12_copied 102 = .ok (.ixor, 1) := by decide +kernel
theorem dX12_copied_103 : decode cX12_copied 103 = .ok (.iand, 1) := by decide +kernel
theorem dX12_copied_104 : decode cX12_copied 104 = .ok (.invokevirtual 281, 3) := by decide +kernel
theorem dX12_copied_107 : decode cX12_copied 107 = .ok (.istore 7, 2) := by decide +kernel
theorem dX12_copied_109 : decode cX12_copied 109 = .ok (.iload 6, 2) := by decide +kernel
theorem dX12_copied_111 : decode cX12_copied 111 = .ok (.ifCond .eq 14, 3) := by decide +kernel
theorem dX12_copied_114 : decode cX12_copied 114 = .ok (.aload_n 0, 1) := by decide +kernel
theorem dX12_copied_115 : decode cX12_copied 115 = .ok (.getfield 79, 3) := by decide +kernel
theorem dX12_copied_118 : decode cX12_copied 118 = .ok (.iload 4, 2) := by decide +kernel
theorem dX12_copied_120 : decode cX12_copied 120 = .ok (.iload_n 2, 1) := by decide +kernel
theorem dX12_copied_121 : decode cX12_copied 121 = .ok (.iastore, 1) := by decide +kernel
theorem dX12_copied_122 : decode cX12_copied 122 = .ok (.iinc 7 1, 3) := by decide +kernel
theorem dX12_copied_125 : decode cX12_copied 125 = .ok (.aload_n 0, 1) := by decide +kernel
theorem dX12_copied_126 : decode cX12_copied 126 = .ok (.getfield 82, 3) := by decide +kernel
theorem dX12_copied_129 : decode cX12_copied 129 = .ok (.iload 4, 2) := by decide +kernel
theorem dX12_copied_131 : decode cX12_copied 131 = .ok (.iconst 0, 1) := by decide +kernel
theorem dX12_copied_132 : decode cX12_copied 132 = .ok (.iastore, 1) := by decide +kernel
theorem dX12_copied_133 : decode cX12_copied 133 = .ok (.iload 7, 2) := by decide +kernel
theorem dX12_copied_135 : decode cX12_copied 135 = .ok (.ireturn, 1) := by decide +kernel
theorem dX12_fail_0 : decode cX12_fail 0 = .ok (.aload_n 0, 1) := by decide +kernel
theorem dX12_fail_1 : decode cX12_fail 1 = .ok (.getfield 118, 3) := by decide +kernel
theorem dX12_fail_4 : decode cX12_fail 4 = .ok (.bipush 10, 2) := by decide +kernel
theorem dX12_fail_6 : decode cX12_fail 6 = .ok (.aload_n 0, 1) := by decide +kernel
theorem dX12_fail_7 : decode cX12_fail 7 = .ok (.getfield 243, 3) := by decide +kernel
theorem dX12_fail_10 : decode cX12_fail 10 = .ok (.imul, 1) := by decide +kernel
theorem dX12_fail_11 : decode cX12_fail 11 = .ok (.iload_n 1, 1) := by decide +kernel
theorem dX12_fail_12 : decode cX12_fail 12 = .ok (.iadd, 1) := by decide +kernel
theorem dX12_fail_13 : decode cX12_fail 13 = .ok (.iconst 1, 1) := by decide +kernel
theorem dX12_fail_14 : decode cX12_fail 14 = .ok (.bastore, 1) := by decide +kernel
theorem dX12_fail_15 : decode cX12_fail 15 = .ok (.aload_n 0, 1) := by decide +kernel
theorem dX12_fail_16 : decode cX12_fail 16 = .ok (.getfield 73, 3) := by decide +kernel
theorem dX12_fail_19 : decode cX12_fail 19 = .ok (.aload_n 0, 1) := by decide +kernel
theorem dX12_fail_20 : decode cX12_fail 20 = .ok (.getfield 243, 3) := by decide +kernel
theorem dX12_fail_23 : decode cX12_fail 23 = .ok (.dup2, 1) := by decide +kernel
theorem dX12_fail_24 : decode cX12_fail 24 = .ok (.iaload, 1) := by decide +kernel
theorem dX12_fail_25 : decode cX12_fail 25 = .ok (.iconst 1, 1) := by decide +kernel
theorem dX12_fail_26 : decode cX12_fail 26 = .ok (.iadd, 1) := by decide +kernel
theorem dX12_fail_27 : decode cX12_fail 27 = .ok (.iastore, 1) := by decide +kernel
theorem dX12_fail_28 : decode cX12_fail 28 = .ok (.return_, 1) := by decide +kernel
theorem dX12_note_0 : decode cX12_note 0 = .ok (.aload_n 0, 1) := by decide +kernel
theorem dX12_note_1 : decode cX12_note 1 = .ok (.getfield 243, 3) := by decide +kernel
theorem dX12_note_4 : decode cX12_note 4 = .ok (.ifCond .gt 13, 3) := by decide +kernel
theorem dX12_note_7 : decode cX12_note 7 = .ok (.aload_n 0, 1) := by decide +kernel
theorem dX12_note_8 : decode cX12_note 8 = .ok (.getfield 284, 3) := by decide +kernel
theorem dX12_note_11 : decode cX12_note 11 = .ok (.sipush 300, 3) := by decide +kernel
theorem dX12_note_14 : decode cX12_note 14 = .ok (.if_icmp .ne 4, 3) := by decide +kernel
theorem dX12_note_17 : decode cX12_note 17 = .ok (.return_, 1) := by decide +kernel
theorem dX12_note_18 : decode cX12_note 18 = .ok (.bipush 10, 2) := by decide +kernel
theorem dX12_note_20 : decode cX12_note 20 = .ok (.aload_n 0, 1) := by decide +kernel
theorem dX12_note_21 : decode cX12_note 21 = .ok (.getfield 284, 3) := by decide +kernel
theorem dX12_note_24 : decode cX12_note 24 = .ok (.imul, 1) := by decide +kernel
theorem dX12_note_25 : decode cX12_note 25 = .ok (.istore 6, 2) := by decide +kernel
theorem dX12_note_27 : decode cX12_note 27 = .ok (.aload_n 0, 1) := by decide +kernel
theorem dX12_note_28 : decode cX12_note 28 = .ok (.getfield 145, 3) := by decide +kernel
theorem dX12_note_31 : decode cX12_note 31 = .ok (.iload 6, 2) := by decide +kernel
theorem dX12_note_33 : decode cX12_note 33 = .ok (.aload_n 0, 1) := by decide +kernel
theorem dX12_note_34 : decode cX12_note 34 = .ok (.getfield 54, 3) := by decide +kernel
theorem dX12_note_37 : decode cX12_note 37 = .ok (.iconst 0, 1) := by decide +kernel
theorem dX12_note_38 : decode cX12_note 38 = .ok (.iaload, 1) := by decide +kernel
theorem dX12_note_39 : decode cX12_note 39 = .ok (.iastore, 1) := by decide +kernel
theorem dX12_note_40 : decode cX12_note 40 = .ok (.aload_n 0, 1) := by decide +kernel
theorem dX12_note_41 : decode cX12_note 41 = .ok (.getfield 145, 3) := by decide +kernel
theorem dX12_note_44 : decode cX12_note 44 = .ok (.iload 6, 2) := by decide +kernel
theorem dX12_note_46 : decode cX12_note 46 = .ok (.iconst 1, 1) := by decide +kernel
theorem dX12_note_47 : decode cX12_note 47 = .ok (.iadd, 1) := by decide +kernel
theorem dX12_note_48 : decode cX12_note 48 = .ok (.iload_n 1, 1) := by decide +kernel
theorem dX12_note_49 : decode cX12_note 49 = .ok (.iastore, 1) := by decide +kernel
theorem dX12_note_50 : decode cX12_note 50 = .ok (.aload_n 0, 1) := by decide +kernel
theorem dX12_note_51 : decode cX12_note 51 = .ok (.getfield 145, 3) := by decide +kernel
theorem dX12_note_54 : decode cX12_note 54 = .ok (.iload 6, 2) := by decide +kernel
theorem dX12_note_56 : decode cX12_note 56 = .ok (.iconst 2, 1) := by decide +kernel
theorem dX12_note_57 : decode cX12_note 57 = .ok (.iadd, 1) := by decide +kernel
theorem dX12_note_58 : decode cX12_note 58 = .ok (.iload_n 2, 1) := by decide +kernel
theorem dX12_note_59 : decode cX12_note 59 = .ok (.iastore, 1) := by decide +kernel
theorem dX12_note_60 : decode cX12_note 60 = .ok (.aload_n 0, 1) := by decide +kernel
theorem dX12_note_61 : decode cX12_note 61 = .ok (.getfield 145, 3) := by decide +kernel
theorem dX12_note_64 : decode cX12_note 64 = .ok (.iload 6, 2) := by decide +kernel
theorem dX12_note_66 : decode cX12_note 66 = .ok (.iconst 3, 1) := by decide +kernel
theorem dX12_note_67 : decode cX12_note 67 = .ok (.iadd, 1) := by decide +kernel
theorem dX12_note_68 : decode cX12_note 68 = .ok (.aload_n 0, 1) := by decide +kernel
theorem dX12_note_69 : decode cX12_note 69 = .ok (.getfield 25, 3) := by decide +kernel
theorem dX12_note_72 : decode cX12_note 72 = .ok (.iload_n 3, 1) := by decide +kernel
theorem dX12_note_73 : decode cX12_note 73 = .ok (.iaload, 1) := by decide +kernel
theorem dX12_note_74 : decode cX12_note 74 = .ok (.iastore, 1) := by decide +kernel
theorem dX12_note_75 : decode cX12_note 75 = .ok (.aload_n 0, 1) := by decide +kernel
theorem dX12_note_76 : decode cX12_note 76 = .ok (.getfield 145, 3) := by decide +kernel
theorem dX12_note_79 : decode cX12_note 79 = .ok (.iload 6, 2) := by decide +kernel
theorem dX12_note_81 : decode cX12_note 81 = .ok (.iconst 4, 1) := by decide +kernel
theorem dX12_note_82 : decode cX12_note 82 = .ok (.iadd, 1) := by decide +kernel
theorem dX12_note_83 : decode cX12_note 83 = .ok (.aload_n 0, 1) := by decide +kernel
theorem dX12_note_84 : decode cX12_note 84 = .ok (.getfield 28, 3) := by decide +kernel
theorem dX12_note_87 : decode cX12_note 87 = .ok (.iload_n 3, 1) := by decide +kernel
theorem dX12_note_88 : decode cX12_note 88 = .ok (.iaload, 1) := by decide +kernel
theorem dX12_note_89 : decode cX12_note 89 = .ok (.iastore, 1) := by decide +kernel
theorem dX12_note_90 : decode cX12_note 90 = .ok (.aload_n 0, 1) := by decide +kernel
theorem dX12_note_91 : decode cX12_note 91 = .ok (.getfield 145, 3) := by decide +kernel
theorem dX12_note_94 : decode cX12_note 94 = .ok (.iload 6, 2) := by decide +kernel
theorem dX12_note_96 : decode cX12_note 96 = .ok (.iconst 5, 1) := by decide +kernel
theorem dX12_note_97 : decode cX12_note 97 = .ok (.iadd, 1) := by decide +kernel
theorem dX12_note_98 : decode cX12_note 98 = .ok (.aload_n 0, 1) := by decide +kernel
theorem dX12_note_99 : decode cX12_note 99 = .ok (.getfield 31, 3) := by decide +kernel
theorem dX12_note_102 : decode cX12_note 102 = .ok (.iload_n 3, 1) := by decide +kernel
theorem dX12_note_103 : decode cX12_note 103 = .ok (.baload, 1) := by decide +kernel
theorem dX12_note_104 : decode cX12_note 104 = .ok (.ifCond .eq 7, 3) := by decide +kernel
theorem dX12_note_107 : decode cX12_note 107 = .ok (.iconst 1, 1) := by decide +kernel
theorem dX12_note_108 : decode cX12_note 108 = .ok (.goto 4, 3) := by decide +kernel
theorem dX12_note_111 : decode cX12_note 111 = .ok (.iconst 0, 1) := by decide +kernel
theorem dX12_note_112 : decode cX12_note 112 = .ok (.iastore, 1) := by decide +kernel
theorem dX12_note_113 : decode cX12_note 113 = .ok (.aload_n 0, 1) := by decide +kernel
theorem dX12_note_114 : decode cX12_note 114 = .ok (.getfield 145, 3) := by decide +kernel
theorem dX12_note_117 : decode cX12_note 117 = .ok (.iload 6, 2) := by decide +kernel
theorem dX12_note_119 : decode cX12_note 119 = .ok (.bipush 6, 2) := by decide +kernel
theorem dX12_note_121 : decode cX12_note 121 = .ok (.iadd, 1) := by decide +kernel
theorem dX12_note_122 : decode cX12_note 122 = .ok (.iload 4, 2) := by decide +kernel
theorem dX12_note_124 : decode cX12_note 124 = .ok (.iastore, 1) := by decide +kernel
theorem dX12_note_125 : decode cX12_note 125 = .ok (.aload_n 0, 1) := by decide +kernel
theorem dX12_note_126 : decode cX12_note 126 = .ok (.getfield 145, 3) := by decide +kernel
theorem dX12_note_129 : decode cX12_note 129 = .ok (.iload 6, 2) := by decide +kernel
theorem dX12_note_131 : decode cX12_note 131 = .ok (.bipush 7, 2) := by decide +kernel
theorem dX12_note_133 : decode cX12_note 133 = .ok (.iadd, 1) := by decide +kernel
theorem dX12_note_134 : decode cX12_note 134 = .ok (.iload 5, 2) := by decide +kernel
theorem dX12_note_136 : decode cX12_note 136 = .ok (.iastore, 1) := by decide +kernel
theorem dX12_note_137 : decode cX12_note 137 = .ok (.aload_n 0, 1) := by decide +kernel
theorem dX12_note_138 : decode cX12_note 138 = .ok (.getfield 145, 3) := by decide +kernel
theorem dX12_note_141 : decode cX12_note 141 = .ok (.iload 6, 2) := by decide +kernel
theorem dX12_note_143 : decode cX12_note 143 = .ok (.bipush 8, 2) := by decide +kernel
theorem dX12_note_145 : decode cX12_note 145 = .ok (.iadd, 1) := by decide +kernel
theorem dX12_note_146 : decode cX12_note 146 = .ok (.aload_n 0, 1) := by decide +kernel
theorem dX12_note_147 : decode cX12_note 147 = .ok (.getfield 264, 3) := by decide +kernel
theorem dX12_note_150 : decode cX12_note 150 = .ok (.ifCond .eq 7, 3) := by decide +kernel
theorem dX12_note_153 : decode cX12_note 153 = .ok (.iconst 1, 1) := by decide +kernel
theorem dX12_note_154 : decode cX12_note 154 = .ok (.goto 4, 3) := by decide +kernel
theorem dX12_note_157 : decode cX12_note 157 = .ok (.iconst 0, 1) := by decide +kernel
theorem dX12_note_158 : decode cX12_note 158 = .ok (.iastore, 1) := by decide +kernel
theorem dX12_note_159 : decode cX12_note 159 = .ok (.aload_n 0, 1) := by decide +kernel
theorem dX12_note_160 : decode cX12_note 160 = .ok (.getfield 145, 3) := by decide +kernel
theorem dX12_note_163 : decode cX12_note 163 = .ok (.iload 6, 2) := by decide +kernel
theorem dX12_note_165 : decode cX12_note 165 = .ok (.bipush 9, 2) := by decide +kernel
theorem dX12_note_167 : decode cX12_note 167 = .ok (.iadd, 1) := by decide +kernel
theorem dX12_note_168 : decode cX12_note 168 = .ok (.aload_n 0, 1) := by decide +kernel
theorem dX12_note_169 : decode cX12_note 169 = .ok (.getfield 278, 3) := by decide +kernel
theorem dX12_note_172 : decode cX12_note 172 = .ok (.ifCond .eq 7, 3) := by decide +kernel
theorem dX12_note_175 : decode cX12_note 175 = .ok (.iconst 1, 1) := by decide +kernel
theorem dX12_note_176 : decode cX12_note 176 = .ok (.goto 4, 3) := by decide +kernel
theorem dX12_note_179 : decode cX12_note 179 = .ok (.iconst 0, 1) := by decide +kernel
theorem dX12_note_180 : decode cX12_note 180 = .ok (.iastore, 1) := by decide +kernel
theorem dX12_note_181 : decode cX12_note 181 = .ok (.aload_n 0, 1) := by decide +kernel
theorem dX12_note_182 : decode cX12_note 182 = .ok (.getfield 148, 3) := by decide +kernel
theorem dX12_note_185 : decode cX12_note 185 = .ok (.aload_n 0, 1) := by decide +kernel
theorem dX12_note_186 : decode cX12_note 186 = .ok (.getfield 284, 3) := by decide +kernel
theorem dX12_note_189 : decode cX12_note 189 = .ok (.aload_n 0, 1) := by decide +kernel
theorem dX12_note_190 : decode cX12_note 190 = .ok (.getfield 35, 3) := by decide +kernel
theorem dX12_note_193 : decode cX12_note 193 = .ok (.iload_n 3, 1) := by decide +kernel
theorem dX12_note_194 : decode cX12_note 194 = .ok (.iaload, 1) := by decide +kernel
theorem dX12_note_195 : decode cX12_note 195 = .ok (.iastore, 1) := by decide +kernel
theorem dX12_note_196 : decode cX12_note 196 = .ok (.aload_n 0, 1) := by decide +kernel
theorem dX12_note_197 : decode cX12_note 197 = .ok (.dup, 1) := by decide +kernel
theorem dX12_note_198 : decode cX12_note 198 = .ok (.getfield 284, 3) := by decide +kernel
theorem dX12_note_201 : decode cX12_note 201 = .ok (.iconst 1, 1) := by decide +kernel
theorem dX12_note_202 : decode cX12_note 202 = .ok (.iadd, 1) := by decide +kernel
theorem dX12_note_203 : decode cX12_note 203 = .ok (.putfield 284, 3) := by decide +kernel
theorem dX12_note_206 : decode cX12_note 206 = .ok (.return_, 1) := by decide +kernel
theorem dX12_tryNext_0 : decode cX12_tryNext 0 = .ok (.bipush 10, 2) := by decide +kernel
theorem dX12_tryNext_2 : decode cX12_tryNext 2 = .ok (.aload_n 0, 1) := by decide +kernel
theorem dX12_tryNext_3 : decode cX12_tryNext 3 = .ok (.getfield 243, 3) := by decide +kernel
theorem dX12_tryNext_6 : decode cX12_tryNext 6 = .ok (.imul, 1) := by decide +kernel
theorem dX12_tryNext_7 : decode cX12_tryNext 7 = .ok (.iload_n 1, 1) := by decide +kernel
theorem dX12_tryNext_8 : decode cX12_tryNext 8 = .ok (.iadd, 1) := by decide +kernel
theorem dX12_tryNext_9 : decode cX12_tryNext 9 = .ok (.istore_n 2, 1) := by decide +kernel
theorem dX12_tryNext_10 : decode cX12_tryNext 10 = .ok (.aload_n 0, 1) := by decide +kernel
theorem dX12_tryNext_11 : decode cX12_tryNext 11 = .ok (.getfield 103, 3) := by decide +kernel
theorem dX12_tryNext_14 : decode cX12_tryNext 14 = .ok (.iload_n 2, 1) := by decide +kernel
theorem dX12_tryNext_15 : decode cX12_tryNext 15 = .ok (.iaload, 1) := by decide +kernel
theorem dX12_tryNext_16 : decode cX12_tryNext 16 = .ok (.istore_n 3, 1) := by decide +kernel
theorem dX12_tryNext_17 : decode cX12_tryNext 17 = .ok (.bipush 60, 2) := by decide +kernel
theorem dX12_tryNext_19 : decode cX12_tryNext 19 = .ok (.iload_n 1, 1) := by decide +kernel
theorem dX12_tryNext_20 : decode cX12_tryNext 20 = .ok (.imul, 1) := by decide +kernel
theorem dX12_tryNext_21 : decode cX12_tryNext 21 = .ok (.aload_n 0, 1) := by decide +kernel
theorem dX12_tryNext_22 : decode cX12_tryNext 22 = .ok (.getfield 109, 3) := by decide +kernel
theorem dX12_tryNext_25 : decode cX12_tryNext 25 = .ok (.iload_n 2, 1) := by decide +kernel
theorem dX12_tryNext_26 : decode cX12_tryNext 26 = .ok (.iaload, 1) := by decide +kernel
theorem dX12_tryNext_27 : decode cX12_tryNext 27 = .ok (.iadd, 1) := by decide +kernel
theorem dX12_tryNext_28 : decode cX12_tryNext 28 = .ok (.istore 4, 2) := by decide +kernel
theorem dX12_tryNext_30 : decode cX12_tryNext 30 = .ok (.aload_n 0, 1) := by decide +kernel
theorem dX12_tryNext_31 : decode cX12_tryNext 31 = .ok (.getfield 25, 3) := by decide +kernel
theorem dX12_tryNext_34 : decode cX12_tryNext 34 = .ok (.iload 4, 2) := by decide +kernel
theorem dX12_tryNext_36 : decode cX12_tryNext 36 = .ok (.iaload, 1) := by decide +kernel
theorem dX12_tryNext_37 : decode cX12_tryNext 37 = .ok (.istore 5, 2) := by decide +kernel
theorem dX12_tryNext_39 : decode cX12_tryNext 39 = .ok (.aload_n 0, 1) := by decide +kernel
theorem dX12_tryNext_40 : decode cX12_tryNext 40 = .ok (.getfield 28, 3) := by decide +kernel
theorem dX12_tryNext_43 : decode cX12_tryNext 43 = .ok (.iload 4, 2) := by decide +kernel
theorem dX12_tryNext_45 : decode cX12_tryNext 45 = .ok (.iaload, 1) := by decide +kernel
theorem dX12_tryNext_46 : decode cX12_tryNext 46 = .ok (.istore 6, 2) := by decide +kernel
theorem dX12_tryNext_48 : decode cX12_tryNext 48 = .ok (.iload 5, 2) := by decide +kernel
theorem dX12_tryNext_50 : decode cX12_tryNext 50 = .ok (.aload_n 0, 1) := by decide +kernel
theorem dX12_tryNext_51 : decode cX12_tryNext 51 = .ok (.getfield 197, 3) := by decide +kernel
theorem dX12_tryNext_54 : decode cX12_tryNext 54 = .ok (.if_icmp .ge 39, 3) := by decide +kernel
theorem dX12_tryNext_57 : decode cX12_tryNext 57 = .ok (.iload 6, 2) := by decide +kernel
theorem dX12_tryNext_59 : decode cX12_tryNext 59 = .ok (.iconst 3, 1) := by decide +kernel
theorem dX12_tryNext_60 : decode cX12_tryNext 60 = .ok (.if_icmp .gt 33, 3) := by decide +kernel
theorem dX12_tryNext_63 : decode cX12_tryNext 63 = .ok (.aload_n 0, 1) := by decide +kernel
theorem dX12_tryNext_64 : decode cX12_tryNext 64 = .ok (.getfield 79, 3) := by decide +kernel
theorem dX12_tryNext_67 : decode cX12_tryNext 67 = .ok (.bipush 20, 2) := by decide +kernel
theorem dX12_tryNext_69 : decode cX12_tryNext 69 = .ok (.aload_n 0, 1) := by decide +kernel
theorem dX12_tryNext_70 : decode cX12_tryNext 70 = .ok (.getfield 243, 3) := by decide +kernel
theorem dX12_tryNext_73 : decode cX12_tryNext 73 = .ok (.imul, 1) := by decide +kernel
theorem dX12_tryNext_74 : decode cX12_tryNext 74 = .ok (.iload 5, 2) := by decide +kernel
theorem dX12_tryNext_76 : decode cX12_tryNext 76 = .ok (.iadd, 1) := by decide +kernel
theorem dX12_tryNext_77 : decode cX12_tryNext 77 = .ok (.iaload, 1) := by decide +kernel
theorem dX12_tryNext_78 : decode cX12_tryNext 78 = .ok (.bipush (-2), 2) := by decide +kernel
theorem dX12_tryNext_80 : decode cX12_tryNext 80 = .ok (.if_icmp .ne 19, 3) := by decide +kernel
theorem dX12_tryNext_83 : decode cX12_tryNext 83 = .ok (.aload_n 0, 1) := by decide +kernel
theorem dX12_tryNext_84 : decode cX12_tryNext 84 = .ok (.iload 5, 2) := by decide +kernel
theorem dX12_tryNext_86 : decode cX12_tryNext 86 = .ok (.iload_n 3, 1) := by decide +kernel
theorem dX12_tryNext_87 : decode cX12_tryNext 87 = .ok (.invokevirtual 287, 3) := by decide +kernel
theorem dX12_tryNext_90 : decode cX12_tryNext 90 = .ok (.ifCond .ne 9, 3) := by decide +kernel
theorem dX12_tryNext_93 : decode cX12_tryNext 93 = .ok (.aload_n 0, 1) := by decide +kernel
theorem dX12_tryNext_94 : decode cX12_tryNext 94 = .ok (.iload_n 1, 1) := by decide +kernel
theorem dX12_tryNext_95 : decode cX12_tryNext 95 = .ok (.invokevirtual 290, 3) := by decide +kernel
theorem dX12_tryNext_98 : decode cX12_tryNext 98 = .ok (.return_, 1) := by decide +kernel
theorem dX12_tryNext_99 : decode cX12_tryNext 99 = .ok (.aload_n 0, 1) := by decide +kernel
theorem dX12_tryNext_100 : decode cX12_tryNext 100 = .ok (.iload 5, 2) := by decide +kernel
theorem dX12_tryNext_102 : decode cX12_tryNext 102 = .ok (.iload 6, 2) := by decide +kernel
theorem dX12_tryNext_104 : decode cX12_tryNext 104 = .ok (.iload_n 3, 1) := by decide +kernel
theorem dX12_tryNext_105 : decode cX12_tryNext 105 = .ok (.invokevirtual 294, 3) := by decide +kernel
theorem dX12_tryNext_108 : decode cX12_tryNext 108 = .ok (.istore 7, 2) := by decide +kernel
theorem dX12_tryNext_110 : decode cX12_tryNext 110 = .ok (.aload_n 0, 1) := by decide +kernel
theorem dX12_tryNext_111 : decode cX12_tryNext 111 = .ok (.iload_n 3, 1) := by decide +kernel
theorem dX12_tryNext_112 : decode cX12_tryNext 112 = .ok (.iload 7, 2) := by decide +kernel
theorem dX12_tryNext_114 : decode cX12_tryNext 114 = .ok (.invokevirtual 220, 3) := by decide +kernel
theorem dX12_tryNext_117 : decode cX12_tryNext 117 = .ok (.ifCond .ne 9, 3) := by decide +kernel
theorem dX12_tryNext_120 : decode cX12_tryNext 120 = .ok (.aload_n 0, 1) := by decide +kernel
theorem dX12_tryNext_121 : decode cX12_tryNext 121 = .ok (.iload_n 1, 1) := by decide +kernel
theorem dX12_tryNext_122 : decode cX12_tryNext 122 = .ok (.invokevirtual 290, 3) := by decide +kernel
theorem dX12_tryNext_125 : decode cX12_tryNext 125 = .ok (.return_, 1) := by decide +kernel
theorem dX12_tryNext_126 : decode cX12_tryNext 126 = .ok (.aload_n 0, 1) := by decide +kernel
theorem dX12_tryNext_127 : decode cX12_tryNext 127 = .ok (.iload_n 3, 1) := by decide +kernel
theorem dX12_tryNext_128 : decode cX12_tryNext 128 = .ok (.iload 7, 2) := by decide +kernel
theorem dX12_tryNext_130 : decode cX12_tryNext 130 = .ok (.invokevirtual 298, 3) := by decide +kernel
theorem dX12_tryNext_133 : decode cX12_tryNext 133 = .ok (.istore 8, 2) := by decide +kernel
theorem dX12_tryNext_135 : decode cX12_tryNext 135 = .ok (.iload 8, 2) := by decide +kernel
theorem dX12_tryNext_137 : decode cX12_tryNext 137 = .ok (.ifCond .lt 33, 3) := by decide +kernel
theorem dX12_tryNext_140 : decode cX12_tryNext 140 = .ok (.aload_n 0, 1) := by decide +kernel
theorem dX12_tryNext_141 : decode cX12_tryNext 141 = .ok (.getfield 115, 3) := by decide +kernel
theorem dX12_tryNext_144 : decode cX12_tryNext 144 = .ok (.iload_n 2, 1) := by decide +kernel
theorem dX12_tryNext_145 : decode cX12_tryNext 145 = .ok (.dup2, 1) := by decide +kernel
theorem dX12_tryNext_146 : decode cX12_tryNext 146 = .ok (.iaload, 1) := by decide +kernel
theorem dX12_tryNext_147 : decode cX12_tryNext 147 = .ok (.iconst 1, 1) := by decide +kernel
theorem dX12_tryNext_148 : decode cX12_tryNext 148 = .ok (.iadd, 1) := by decide +kernel
theorem dX12_tryNext_149 : decode cX12_tryNext 149 = .ok (.iastore, 1) := by decide +kernel
theorem dX12_tryNext_150 : decode cX12_tryNext 150 = .ok (.aload_n 0, 1) := by decide +kernel
theorem dX12_tryNext_151 : decode cX12_tryNext 151 = .ok (.getfield 142, 3) := by decide +kernel
theorem dX12_tryNext_154 : decode cX12_tryNext 154 = .ok (.bipush 16, 2) := by decide +kernel
theorem dX12_tryNext_156 : decode cX12_tryNext 156 = .ok (.aload_n 0, 1) := by decide +kernel
theorem dX12_tryNext_157 : decode cX12_tryNext 157 = .ok (.getfield 243, 3) := by decide +kernel
theorem dX12_tryNext_160 : decode cX12_tryNext 160 = .ok (.imul, 1) := by decide +kernel
theorem dX12_tryNext_161 : decode cX12_tryNext 161 = .ok (.iload 8, 2) := by decide +kernel
theorem dX12_tryNext_163 : decode cX12_tryNext 163 = .ok (.iadd, 1) := by decide +kernel
theorem dX12_tryNext_164 : decode cX12_tryNext 164 = .ok (.dup2, 1) := by decide +kernel
theorem dX12_tryNext_165 : decode cX12_tryNext 165 = .ok (.iaload, 1) := by decide +kernel
theorem dX12_tryNext_166 : decode cX12_tryNext 166 = .ok (.iconst 1, 1) := by decide +kernel
theorem dX12_tryNext_167 : decode cX12_tryNext 167 = .ok (.iadd, 1) := by decide +kernel
theorem dX12_tryNext_168 : decode cX12_tryNext 168 = .ok (.iastore, 1) := by decide +kernel
theorem dX12_tryNext_169 : decode cX12_tryNext 169 = .ok (.return_, 1) := by decide +kernel
theorem dX12_tryNext_170 : decode cX12_tryNext 170 = .ok (.aload_n 0, 1) := by decide +kernel
theorem dX12_tryNext_171 : decode cX12_tryNext 171 = .ok (.iload_n 3, 1) := by decide +kernel
theorem dX12_tryNext_172 : decode cX12_tryNext 172 = .ok (.iload 7, 2) := by decide +kernel
theorem dX12_tryNext_174 : decode cX12_tryNext 174 = .ok (.invokevirtual 301, 3) := by decide +kernel
theorem dX12_tryNext_177 : decode cX12_tryNext 177 = .ok (.aload_n 0, 1) := by decide +kernel
theorem dX12_tryNext_178 : decode cX12_tryNext 178 = .ok (.iconst 0, 1) := by decide +kernel
theorem dX12_tryNext_179 : decode cX12_tryNext 179 = .ok (.putfield 264, 3) := by decide +kernel
theorem dX12_tryNext_182 : decode cX12_tryNext 182 = .ok (.aload_n 0, 1) := by decide +kernel
theorem dX12_tryNext_183 : decode cX12_tryNext 183 = .ok (.iconst 0, 1) := by decide +kernel
theorem dX12_tryNext_184 : decode cX12_tryNext 184 = .ok (.putfield 278, 3) := by decide +kernel
theorem dX12_tryNext_187 : decode cX12_tryNext 187 = .ok (.iconst 1, 1) := by decide +kernel
theorem dX12_tryNext_188 : decode cX12_tryNext 188 = .ok (.iconst 2, 1) := by decide +kernel
theorem dX12_tryNext_189 : decode cX12_tryNext 189 = .ok (.aload_n 0, 1) := by decide +kernel
theorem dX12_tryNext_190 : decode cX12_tryNext 190 = .ok (.getfield 16, 3) := by decide +kernel
theorem dX12_tryNext_193 : decode cX12_tryNext 193 = .ok (.iconst 4, 1) := by decide +kernel
theorem dX12_tryNext_194 : decode cX12_tryNext 194 = .ok (.iload_n 3, 1) := by decide +kernel
theorem dX12_tryNext_195 : decode cX12_tryNext 195 = .ok (.imul, 1) := by decide +kernel
theorem dX12_tryNext_196 : decode cX12_tryNext 196 = .ok (.iload 7, 2) := by decide +kernel
theorem dX12_tryNext_198 : decode cX12_tryNext 198 = .ok (.iadd, 1) := by decide +kernel
theorem dX12_tryNext_199 : decode cX12_tryNext 199 = .ok (.iaload, 1) := by decide +kernel
theorem dX12_tryNext_200 : decode cX12_tryNext 200 = .ok (.imul, 1) := by decide +kernel
theorem dX12_tryNext_201 : decode cX12_tryNext 201 = .ok (.iadd, 1) := by decide +kernel
theorem dX12_tryNext_202 : decode cX12_tryNext 202 = .ok (.istore 9, 2) := by decide +kernel
theorem dX12_tryNext_204 : decode cX12_tryNext 204 = .ok (.iload 9, 2) := by decide +kernel
theorem dX12_tryNext_206 : decode cX12_tryNext 206 = .ok (.aload_n 0, 1) := by decide +kernel
theorem dX12_tryNext_207 : decode cX12_tryNext 207 = .ok (.getfield 85, 3) := by decide +kernel
theorem dX12_tryNext_210 : decode cX12_tryNext 210 = .ok (.bipush 20, 2) := by decide +kernel
theorem dX12_tryNext_212 : decode cX12_tryNext 212 = .ok (.aload_n 0, 1) := by decide +kernel
theorem dX12_tryNext_213 : decode cX12_tryNext 213 = .ok (.getfield 243, 3) := by decide +kernel
theorem dX12_tryNext_216 : decode cX12_tryNext 216 = .ok (.imul, 1) := by decide +kernel
theorem dX12_tryNext_217 : decode cX12_tryNext 217 = .ok (.iload 5, 2) := by decide +kernel
theorem dX12_tryNext_219 : decode cX12_tryNext 219 = .ok (.iadd, 1) := by decide +kernel
theorem dX12_tryNext_220 : decode cX12_tryNext 220 = .ok (.baload, 1) := by decide +kernel
theorem dX12_tryNext_221 : decode cX12_tryNext 221 = .ok (.ifCond .eq 13, 3) := by decide +kernel
theorem dX12_tryNext_224 : decode cX12_tryNext 224 = .ok (.aload_n 0, 1) := by decide +kernel
theorem dX12_tryNext_225 : decode cX12_tryNext 225 = .ok (.iload 5, 2) := by decide +kernel
theorem dX12_tryNext_227 : decode cX12_tryNext 227 = .ok (.iload_n 3, 1) := by decide +kernel
theorem dX12_tryNext_228 : decode cX12_tryNext 228 = .ok (.invokevirtual 304, 3) := by decide +kernel
theorem dX12_tryNext_231 : decode cX12_tryNext 231 = .ok (.goto 4, 3) := by decide +kernel
theorem dX12_tryNext_234 : decode cX12_tryNext 234 = .ok (.iconst 0, 1) := by decide +kernel
theorem dX12_tryNext_235 : decode cX12_tryNext 235 = .ok (.iadd, 1) := by decide +kernel
theorem dX12_tryNext_236 : decode cX12_tryNext 236 = .ok (.istore 9, 2) := by decide +kernel
theorem dX12_tryNext_238 : decode cX12_tryNext 238 = .ok (.iconst 4, 1) := by decide +kernel
theorem dX12_tryNext_239 : decode cX12_tryNext 239 = .ok (.bipush 20, 2) := by decide +kernel
theorem dX12_tryNext_241 : decode cX12_tryNext 241 = .ok (.aload_n 0, 1) := by decide +kernel
theorem dX12_tryNext_242 : decode cX12_tryNext 242 = .ok (.getfield 243, 3) := by decide +kernel
theorem dX12_tryNext_245 : decode cX12_tryNext 245 = .ok (.imul, 1) := by decide +kernel
theorem dX12_tryNext_246 : decode cX12_tryNext 246 = .ok (.iload 5, 2) := by decide +kernel
theorem dX12_tryNext_248 : decode cX12_tryNext 248 = .ok (.iadd, 1) := by decide +kernel
theorem dX12_tryNext_249 : decode cX12_tryNext 249 = .ok (.imul, 1) := by decide +kernel
theorem dX12_tryNext_250 : decode cX12_tryNext 250 = .ok (.iload 6, 2) := by decide +kernel
theorem dX12_tryNext_252 : decode cX12_tryNext 252 = .ok (.iadd, 1) := by decide +kernel
theorem dX12_tryNext_253 : decode cX12_tryNext 253 = .ok (.istore 10, 2) := by decide +kernel
theorem dX12_tryNext_255 : decode cX12_tryNext 255 = .ok (.aload_n 0, 1) := by decide +kernel
theorem dX12_tryNext_256 : decode cX12_tryNext 256 = .ok (.getfield 31, 3) := by decide +kernel
theorem dX12_tryNext_259 : decode cX12_tryNext 259 = .ok (.iload 4, 2) := by decide +kernel
theorem dX12_tryNext_261 : decode cX12_tryNext 261 = .ok (.baload, 1) := by decide +kernel
theorem dX12_tryNext_262 : decode cX12_tryNext 262 = .ok (.ifCond .eq 20, 3) := by decide +kernel
theorem dX12_tryNext_265 : decode cX12_tryNext 265 = .ok (.aload_n 0, 1) := by decide +kernel
theorem dX12_tryNext_266 : decode cX12_tryNext 266 = .ok (.getfield 100, 3) := by decide +kernel
theorem dX12_tryNext_269 : decode cX12_tryNext 269 = .ok (.iload 10, 2) := by decide +kernel
theorem dX12_tryNext_271 : decode cX12_tryNext 271 = .ok (.aload_n 0, 1) := by decide +kernel
theorem dX12_tryNext_272 : decode cX12_tryNext 272 = .ok (.getfield 35, 3) := by decide +kernel
theorem dX12_tryNext_275 : decode cX12_tryNext 275 = .ok (.iload 4, 2) := by decide +kernel
theorem dX12_tryNext_277 : decode cX12_tryNext 277 = .ok (.iaload, 1) := by decide +kernel
theorem dX12_tryNext_278 : decode cX12_tryNext 278 = .ok (.iastore, 1) := by decide +kernel
theorem dX12_tryNext_279 : decode cX12_tryNext 279 = .ok (.goto 16, 3) := by decide +kernel
theorem dX12_tryNext_282 : decode cX12_tryNext 282 = .ok (.aload_n 0, 1) := by decide +kernel
theorem dX12_tryNext_283 : decode cX12_tryNext 283 = .ok (.getfield 127, 3) := by decide +kernel
theorem dX12_tryNext_286 : decode cX12_tryNext 286 = .ok (.iload_n 2, 1) := by decide +kernel
theorem dX12_tryNext_287 : decode cX12_tryNext 287 = .ok (.aload_n 0, 1) := by decide +kernel
theorem dX12_tryNext_288 : decode cX12_tryNext 288 = .ok (.getfield 100, 3) := by decide +kernel
theorem dX12_tryNext_291 : decode cX12_tryNext 291 = .ok (.iload 10, 2) := by decide +kernel
theorem dX12_tryNext_293 : decode cX12_tryNext 293 = .ok (.iaload, 1) := by decide +kernel
theorem dX12_tryNext_294 : decode cX12_tryNext 294 = .ok (.iastore, 1) := by decide +kernel
theorem dX12_tryNext_295 : decode cX12_tryNext 295 = .ok (.iload 9, 2) := by decide +kernel
theorem dX12_tryNext_297 : decode cX12_tryNext 297 = .ok (.aload_n 0, 1) := by decide +kernel
theorem dX12_tryNext_298 : decode cX12_tryNext 298 = .ok (.getfield 19, 3) := by decide +kernel
theorem dX12_tryNext_301 : decode cX12_tryNext 301 = .ok (.iload 5, 2) := by decide +kernel
theorem dX12_tryNext_303 : decode cX12_tryNext 303 = .ok (.iaload, 1) := by decide +kernel
theorem dX12_tryNext_304 : decode cX12_tryNext 304 = .ok (.iconst 1, 1) := by decide +kernel
theorem dX12_tryNext_305 : decode cX12_tryNext 305 = .ok (.if_icmp .ne 20, 3) := by decide +kernel
theorem dX12_tryNext_308 : decode cX12_tryNext 308 = .ok (.aload_n 0, 1) := by decide +kernel
theorem dX12_tryNext_309 : decode cX12_tryNext 309 = .ok (.iload 5, 2) := by decide +kernel
theorem dX12_tryNext_311 : decode cX12_tryNext 311 = .ok (.iload_n 3, 1) := by decide +kernel
theorem dX12_tryNext_312 : decode cX12_tryNext 312 = .ok (.aload_n 0, 1) := by decide +kernel
theorem dX12_tryNext_313 : decode cX12_tryNext 313 = .ok (.getfield 31, 3) := by decide +kernel
theorem dX12_tryNext_316 : decode cX12_tryNext 316 = .ok (.iload 4, 2) := by decide +kernel
theorem dX12_tryNext_318 : decode cX12_tryNext 318 = .ok (.baload, 1) := by decide +kernel
theorem dX12_tryNext_319 : decode cX12_tryNext 319 = .ok (.invokevirtual 307, 3) := by decide +kernel
theorem dX12_tryNext_322 : decode cX12_tryNext 322 = .ok (.goto 4, 3) := by decide +kernel
theorem dX12_tryNext_325 : decode cX12_tryNext 325 = .ok (.iconst 0, 1) := by decide +kernel
theorem dX12_tryNext_326 : decode cX12_tryNext 326 = .ok (.iadd, 1) := by decide +kernel
theorem dX12_tryNext_327 : decode cX12_tryNext 327 = .ok (.istore 9, 2) := by decide +kernel
theorem dX12_tryNext_329 : decode cX12_tryNext 329 = .ok (.aload_n 0, 1) := by decide +kernel
theorem dX12_tryNext_330 : decode cX12_tryNext 330 = .ok (.getfield 109, 3) := by decide +kernel
theorem dX12_tryNext_333 : decode cX12_tryNext 333 = .ok (.iload_n 2, 1) := by decide +kernel
theorem dX12_tryNext_334 : decode cX12_tryNext 334 = .ok (.dup2, 1) := by decide +kernel
theorem dX12_tryNext_335 : decode cX12_tryNext 335 = .ok (.iaload, 1) := by decide +kernel
theorem dX12_tryNext_336 : decode cX12_tryNext 336 = .ok (.iconst 1, 1) := by decide +kernel
theorem dX12_tryNext_337 : decode cX12_tryNext 337 = .ok (.iadd, 1) := by decide +kernel
theorem dX12_tryNext_338 : decode cX12_tryNext 338 = .ok (.iastore, 1) := by decide +kernel
theorem dX12_tryNext_339 : decode cX12_tryNext 339 = .ok (.aload_n 0, 1) := by decide +kernel
theorem dX12_tryNext_340 : decode cX12_tryNext 340 = .ok (.getfield 112, 3) := by decide +kernel
theorem dX12_tryNext_343 : decode cX12_tryNext 343 = .ok (.iload_n 2, 1) := by decide +kernel
theorem dX12_tryNext_344 : decode cX12_tryNext 344 = .ok (.iload 9, 2) := by decide +kernel
theorem dX12_tryNext_346 : decode cX12_tryNext 346 = .ok (.iastore, 1) := by decide +kernel
theorem dX12_tryNext_347 : decode cX12_tryNext 347 = .ok (.aload_n 0, 1) := by decide +kernel
theorem dX12_tryNext_348 : decode cX12_tryNext 348 = .ok (.getfield 121, 3) := by decide +kernel
theorem dX12_tryNext_351 : decode cX12_tryNext 351 = .ok (.iload_n 2, 1) := by decide +kernel
theorem dX12_tryNext_352 : decode cX12_tryNext 352 = .ok (.dup2, 1) := by decide +kernel
theorem dX12_tryNext_353 : decode cX12_tryNext 353 = .ok (.iaload, 1) := by decide +kernel
theorem dX12_tryNext_354 : decode cX12_tryNext 354 = .ok (.iconst 1, 1) := by decide +kernel
theorem dX12_tryNext_355 : decode cX12_tryNext 355 = .ok (.iadd, 1) := by decide +kernel
theorem dX12_tryNext_356 : decode cX12_tryNext 356 = .ok (.iastore, 1) := by decide +kernel
theorem dX12_tryNext_357 : decode cX12_tryNext 357 = .ok (.aload_n 0, 1) := by decide +kernel
theorem dX12_tryNext_358 : decode cX12_tryNext 358 = .ok (.getfield 124, 3) := by decide +kernel
theorem dX12_tryNext_361 : decode cX12_tryNext 361 = .ok (.iload_n 2, 1) := by decide +kernel
theorem dX12_tryNext_362 : decode cX12_tryNext 362 = .ok (.dup2, 1) := by decide +kernel
theorem dX12_tryNext_363 : decode cX12_tryNext 363 = .ok (.laload, 1) := by decide +kernel
theorem dX12_tryNext_364 : decode cX12_tryNext 364 = .ok (.iload 9, 2) := by decide +kernel
theorem dX12_tryNext_366 : decode cX12_tryNext 366 = .ok (.i2l, 1) := by decide +kernel
theorem dX12_tryNext_367 : decode cX12_tryNext 367 = .ok (.ladd, 1) := by decide +kernel
theorem dX12_tryNext_368 : decode cX12_tryNext 368 = .ok (.lastore, 1) := by decide +kernel
theorem dX12_tryNext_369 : decode cX12_tryNext 369 = .ok (.aload_n 0, 1) := by decide +kernel
theorem dX12_tryNext_370 : decode cX12_tryNext 370 = .ok (.getfield 97, 3) := by decide +kernel
theorem dX12_tryNext_373 : decode cX12_tryNext 373 = .ok (.bipush 20, 2) := by decide +kernel
theorem dX12_tryNext_375 : decode cX12_tryNext 375 = .ok (.aload_n 0, 1) := by decide +kernel
theorem dX12_tryNext_376 : decode cX12_tryNext 376 = .ok (.getfield 243, 3) := by decide +kernel
theorem dX12_tryNext_379 : decode cX12_tryNext 379 = .ok (.imul, 1) := by decide +kernel
theorem dX12_tryNext_380 : decode cX12_tryNext 380 = .ok (.iload 5, 2) := by decide +kernel
theorem dX12_tryNext_382 : decode cX12_tryNext 382 = .ok (.iadd, 1) := by decide +kernel
theorem dX12_tryNext_383 : decode cX12_tryNext 383 = .ok (.dup2, 1) := by decide +kernel
theorem dX12_tryNext_384 : decode cX12_tryNext 384 = .ok (.laload, 1) := by decide +kernel
theorem dX12_tryNext_385 : decode cX12_tryNext 385 = .ok (.iload 9, 2) := by decide +kernel
theorem dX12_tryNext_387 : decode cX12_tryNext 387 = .ok (.i2l, 1) := by decide +kernel
theorem dX12_tryNext_388 : decode cX12_tryNext 388 = .ok (.ladd, 1) := by decide +kernel
theorem dX12_tryNext_389 : decode cX12_tryNext 389 = .ok (.lastore, 1) := by decide +kernel
theorem dX12_tryNext_390 : decode cX12_tryNext 390 = .ok (.aload_n 0, 1) := by decide +kernel
theorem dX12_tryNext_391 : decode cX12_tryNext 391 = .ok (.getfield 133, 3) := by decide +kernel
theorem dX12_tryNext_394 : decode cX12_tryNext 394 = .ok (.iconst 4, 1) := by decide +kernel
theorem dX12_tryNext_395 : decode cX12_tryNext 395 = .ok (.aload_n 0, 1) := by decide +kernel
theorem dX12_tryNext_396 : decode cX12_tryNext 396 = .ok (.getfield 243, 3) := by decide +kernel
theorem dX12_tryNext_399 : decode cX12_tryNext 399 = .ok (.imul, 1) := by decide +kernel
theorem dX12_tryNext_400 : decode cX12_tryNext 400 = .ok (.iload_n 3, 1) := by decide +kernel
theorem dX12_tryNext_401 : decode cX12_tryNext 401 = .ok (.iadd, 1) := by decide +kernel
theorem dX12_tryNext_402 : decode cX12_tryNext 402 = .ok (.dup2, 1) := by decide +kernel
theorem dX12_tryNext_403 : decode cX12_tryNext 403 = .ok (.laload, 1) := by decide +kernel
theorem dX12_tryNext_404 : decode cX12_tryNext 404 = .ok (.iload 9, 2) := by decide +kernel
theorem dX12_tryNext_406 : decode cX12_tryNext 406 = .ok (.i2l, 1) := by decide +kernel
theorem dX12_tryNext_407 : decode cX12_tryNext 407 = .ok (.ladd, 1) := by decide +kernel
theorem dX12_tryNext_408 : decode cX12_tryNext 408 = .ok (.lastore, 1) := by decide +kernel
theorem dX12_tryNext_409 : decode cX12_tryNext 409 = .ok (.aload_n 0, 1) := by decide +kernel
theorem dX12_tryNext_410 : decode cX12_tryNext 410 = .ok (.getfield 60, 3) := by decide +kernel
theorem dX12_tryNext_413 : decode cX12_tryNext 413 = .ok (.aload_n 0, 1) := by decide +kernel
theorem dX12_tryNext_414 : decode cX12_tryNext 414 = .ok (.getfield 243, 3) := by decide +kernel
theorem dX12_tryNext_417 : decode cX12_tryNext 417 = .ok (.dup2, 1) := by decide +kernel
theorem dX12_tryNext_418 : decode cX12_tryNext 418 = .ok (.iaload, 1) := by decide +kernel
theorem dX12_tryNext_419 : decode cX12_tryNext 419 = .ok (.iconst 1, 1) := by decide +kernel
theorem dX12_tryNext_420 : decode cX12_tryNext 420 = .ok (.iadd, 1) := by decide +kernel
theorem dX12_tryNext_421 : decode cX12_tryNext 421 = .ok (.iastore, 1) := by decide +kernel
theorem dX12_tryNext_422 : decode cX12_tryNext 422 = .ok (.aload_n 0, 1) := by decide +kernel
theorem dX12_tryNext_423 : decode cX12_tryNext 423 = .ok (.getfield 63, 3) := by decide +kernel
theorem dX12_tryNext_426 : decode cX12_tryNext 426 = .ok (.aload_n 0, 1) := by decide +kernel
theorem dX12_tryNext_427 : decode cX12_tryNext 427 = .ok (.getfield 243, 3) := by decide +kernel
theorem dX12_tryNext_430 : decode cX12_tryNext 430 = .ok (.dup2, 1) := by decide +kernel
theorem dX12_tryNext_431 : decode cX12_tryNext 431 = .ok (.laload, 1) := by decide +kernel
theorem dX12_tryNext_432 : decode cX12_tryNext 432 = .ok (.iload 9, 2) := by decide +kernel
theorem dX12_tryNext_434 : decode cX12_tryNext 434 = .ok (.i2l, 1) := by decide +kernel
theorem dX12_tryNext_435 : decode cX12_tryNext 435 = .ok (.ladd, 1) := by decide +kernel
theorem dX12_tryNext_436 : decode cX12_tryNext 436 = .ok (.lastore, 1) := by decide +kernel
theorem dX12_tryNext_437 : decode cX12_tryNext 437 = .ok (.aload_n 0, 1) := by decide +kernel
theorem dX12_tryNext_438 : decode cX12_tryNext 438 = .ok (.iload_n 1, 1) := by decide +kernel
theorem dX12_tryNext_439 : decode cX12_tryNext 439 = .ok (.iload_n 3, 1) := by decide +kernel
theorem dX12_tryNext_440 : decode cX12_tryNext 440 = .ok (.iload 4, 2) := by decide +kernel
theorem dX12_tryNext_442 : decode cX12_tryNext 442 = .ok (.iload 7, 2) := by decide +kernel
theorem dX12_tryNext_444 : decode cX12_tryNext 444 = .ok (.iload 9, 2) := by decide +kernel
theorem dX12_tryNext_446 : decode cX12_tryNext 446 = .ok (.invokevirtual 311, 3) := by decide +kernel
theorem dX12_tryNext_449 : decode cX12_tryNext 449 = .ok (.return_, 1) := by decide +kernel
theorem dX12_underWay_0 : decode cX12_underWay 0 = .ok (.iconst 0, 1) := by decide +kernel
theorem dX12_underWay_1 : decode cX12_underWay 1 = .ok (.istore_n 2, 1) := by decide +kernel
theorem dX12_underWay_2 : decode cX12_underWay 2 = .ok (.iconst 0, 1) := by decide +kernel
theorem dX12_underWay_3 : decode cX12_underWay 3 = .ok (.istore_n 3, 1) := by decide +kernel
theorem dX12_underWay_4 : decode cX12_underWay 4 = .ok (.iload_n 3, 1) := by decide +kernel
theorem dX12_underWay_5 : decode cX12_underWay 5 = .ok (.aload_n 0, 1) := by decide +kernel
theorem dX12_underWay_6 : decode cX12_underWay 6 = .ok (.getfield 200, 3) := by decide +kernel
theorem dX12_underWay_9 : decode cX12_underWay 9 = .ok (.if_icmp .ge 52, 3) := by decide +kernel
theorem dX12_underWay_12 : decode cX12_underWay 12 = .ok (.iload_n 2, 1) := by decide +kernel
theorem dX12_underWay_13 : decode cX12_underWay 13 = .ok (.aload_n 0, 1) := by decide +kernel
theorem dX12_underWay_14 : decode cX12_underWay 14 = .ok (.getfield 103, 3) := by decide +kernel
theorem dX12_underWay_17 : decode cX12_underWay 17 = .ok (.bipush 10, 2) := by decide +kernel
theorem dX12_underWay_19 : decode cX12_underWay 19 = .ok (.aload_n 0, 1) := by decide +kernel
theorem dX12_underWay_20 : decode cX12_underWay 20 = .ok (.getfield 243, 3) := by decide +kernel
theorem dX12_underWay_23 : decode cX12_underWay 23 = .ok (.imul, 1) := by decide +kernel
theorem dX12_underWay_24 : decode cX12_underWay 24 = .ok (.iload_n 3, 1) := by decide +kernel
theorem dX12_underWay_25 : decode cX12_underWay 25 = .ok (.iadd, 1) := by decide +kernel
theorem dX12_underWay_26 : decode cX12_underWay 26 = .ok (.iaload, 1) := by decide +kernel
theorem dX12_underWay_27 : decode cX12_underWay 27 = .ok (.iload_n 1, 1) := by decide +kernel
theorem dX12_underWay_28 : decode cX12_underWay 28 = .ok (.if_icmp .ne 24, 3) := by decide +kernel
theorem dX12_underWay_31 : decode cX12_underWay 31 = .ok (.aload_n 0, 1) := by decide +kernel
theorem dX12_underWay_32 : decode cX12_underWay 32 = .ok (.getfield 112, 3) := by decide +kernel
theorem dX12_underWay_35 : decode cX12_underWay 35 = .ok (.bipush 10, 2) := by decide +kernel
theorem dX12_underWay_37 : decode cX12_underWay 37 = .ok (.aload_n 0, 1) := by decide +kernel
theorem dX12_underWay_38 : decode cX12_underWay 38 = .ok (.getfield 243, 3) := by decide +kernel
theorem dX12_underWay_41 : decode cX12_underWay 41 = .ok (.imul, 1) := by decide +kernel
theorem dX12_underWay_42 : decode cX12_underWay 42 = .ok (.iload_n 3, 1) := by decide +kernel
theorem dX12_underWay_43 : decode cX12_underWay 43 = .ok (.iadd, 1) := by decide +kernel
theorem dX12_underWay_44 : decode cX12_underWay 44 = .ok (.iaload, 1) := by decide +kernel
theorem dX12_underWay_45 : decode cX12_underWay 45 = .ok (.ifCond .le 7, 3) := by decide +kernel
theorem dX12_underWay_48 : decode cX12_underWay 48 = .ok (.iconst 1, 1) := by decide +kernel
theorem dX12_underWay_49 : decode cX12_underWay 49 = .ok (.goto 4, 3) := by decide +kernel
theorem dX12_underWay_52 : decode cX12_underWay 52 = .ok (.iconst 0, 1) := by decide +kernel
theorem dX12_underWay_53 : decode cX12_underWay 53 = .ok (.iadd, 1) := by decide +kernel
theorem dX12_underWay_54 : decode cX12_underWay 54 = .ok (.istore_n 2, 1) := by decide +kernel
theorem dX12_underWay_55 : decode cX12_underWay 55 = .ok (.iinc 3 1, 3) := by decide +kernel
theorem dX12_underWay_58 : decode cX12_underWay 58 = .ok (.goto (-54), 3) := by decide +kernel
theorem dX12_underWay_61 : decode cX12_underWay 61 = .ok (.iload_n 2, 1) := by decide +kernel
theorem dX12_underWay_62 : decode cX12_underWay 62 = .ok (.ireturn, 1) := by decide +kernel
theorem dX12_isReady_0 : decode cX12_isReady 0 = .ok (.bipush 10, 2) := by decide +kernel
theorem dX12_isReady_2 : decode cX12_isReady 2 = .ok (.aload_n 0, 1) := by decide +kernel
theorem dX12_isReady_3 : decode cX12_isReady 3 = .ok (.getfield 243, 3) := by decide +kernel
theorem dX12_isReady_6 : decode cX12_isReady 6 = .ok (.imul, 1) := by decide +kernel
theorem dX12_isReady_7 : decode cX12_isReady 7 = .ok (.iload_n 1, 1) := by decide +kernel
theorem dX12_isReady_8 : decode cX12_isReady 8 = .ok (.iadd, 1) := by decide +kernel
theorem dX12_isReady_9 : decode cX12_isReady 9 = .ok (.istore_n 2, 1) := by decide +kernel
theorem dX12_isReady_10 : decode cX12_isReady 10 = .ok (.aload_n 0, 1) := by decide +kernel
theorem dX12_isReady_11 : decode cX12_isReady 11 = .ok (.getfield 118, 3) := by decide +kernel
theorem dX12_isReady_14 : decode cX12_isReady 14 = .ok (.iload_n 2, 1) := by decide +kernel
theorem dX12_isReady_15 : decode cX12_isReady 15 = .ok (.baload, 1) := by decide +kernel
theorem dX12_isReady_16 : decode cX12_isReady 16 = .ok (.ifCond .ne 31, 3) := by decide +kernel
theorem dX12_isReady_19 : decode cX12_isReady 19 = .ok (.aload_n 0, 1) := by decide +kernel
theorem dX12_isReady_20 : decode cX12_isReady 20 = .ok (.getfield 112, 3) := by decide +kernel
theorem dX12_isReady_23 : decode cX12_isReady 23 = .ok (.iload_n 2, 1) := by decide +kernel
theorem dX12_isReady_24 : decode cX12_isReady 24 = .ok (.iaload, 1) := by decide +kernel
theorem dX12_isReady_25 : decode cX12_isReady 25 = .ok (.ifCond .ne 22, 3) := by decide +kernel
theorem dX12_isReady_28 : decode cX12_isReady 28 = .ok (.aload_n 0, 1) := by decide +kernel
theorem dX12_isReady_29 : decode cX12_isReady 29 = .ok (.getfield 109, 3) := by decide +kernel
theorem dX12_isReady_32 : decode cX12_isReady 32 = .ok (.iload_n 2, 1) := by decide +kernel
theorem dX12_isReady_33 : decode cX12_isReady 33 = .ok (.iaload, 1) := by decide +kernel
theorem dX12_isReady_34 : decode cX12_isReady 34 = .ok (.aload_n 0, 1) := by decide +kernel
theorem dX12_isReady_35 : decode cX12_isReady 35 = .ok (.getfield 22, 3) := by decide +kernel
theorem dX12_isReady_38 : decode cX12_isReady 38 = .ok (.iload_n 1, 1) := by decide +kernel
theorem dX12_isReady_39 : decode cX12_isReady 39 = .ok (.iaload, 1) := by decide +kernel
theorem dX12_isReady_40 : decode cX12_isReady 40 = .ok (.if_icmp .ge 7, 3) := by decide +kernel
theorem dX12_isReady_43 : decode cX12_isReady 43 = .ok (.iconst 1, 1) := by decide +kernel
theorem dX12_isReady_44 : decode cX12_isReady 44 = .ok (.goto 4, 3) := by decide +kernel
theorem dX12_isReady_47 : decode cX12_isReady 47 = .ok (.iconst 0, 1) := by decide +kernel
theorem dX12_isReady_48 : decode cX12_isReady 48 = .ok (.ireturn, 1) := by decide +kernel
theorem dX12_first_0 : decode cX12_first 0 = .ok (.iconst (-1), 1) := by decide +kernel
theorem dX12_first_1 : decode cX12_first 1 = .ok (.istore_n 2, 1) := by decide +kernel
theorem dX12_first_2 : decode cX12_first 2 = .ok (.iconst 0, 1) := by decide +kernel
theorem dX12_first_3 : decode cX12_first 3 = .ok (.istore_n 3, 1) := by decide +kernel
theorem dX12_first_4 : decode cX12_first 4 = .ok (.iload_n 3, 1) := by decide +kernel
theorem dX12_first_5 : decode cX12_first 5 = .ok (.aload_n 0, 1) := by decide +kernel
theorem dX12_first_6 : decode cX12_first 6 = .ok (.getfield 200, 3) := by decide +kernel
theorem dX12_first_9 : decode cX12_first 9 = .ok (.if_icmp .ge 95, 3) := by decide +kernel
theorem dX12_first_12 : decode cX12_first 12 = .ok (.bipush 10, 2) := by decide +kernel
theorem dX12_first_14 : decode cX12_first 14 = .ok (.aload_n 0, 1) := by decide +kernel
theorem dX12_first_15 : decode cX12_first 15 = .ok (.getfield 243, 3) := by decide +kernel
theorem dX12_first_18 : decode cX12_first 18 = .ok (.imul, 1) := by decide +kernel
theorem dX12_first_19 : decode cX12_first 19 = .ok (.iload_n 3, 1) := by decide +kernel
theorem dX12_first_20 : decode cX12_first 20 = .ok (.iadd, 1) := by decide +kernel
theorem dX12_first_21 : decode cX12_first 21 = .ok (.istore 4, 2) := by decide +kernel
theorem dX12_first_23 : decode cX12_first 23 = .ok (.aload_n 0, 1) := by decide +kernel
theorem dX12_first_24 : decode cX12_first 24 = .ok (.getfield 103, 3) := by decide +kernel
theorem dX12_first_27 : decode cX12_first 27 = .ok (.iload 4, 2) := by decide +kernel
theorem dX12_first_29 : decode cX12_first 29 = .ok (.iaload, 1) := by decide +kernel
theorem dX12_first_30 : decode cX12_first 30 = .ok (.iload_n 1, 1) := by decide +kernel
theorem dX12_first_31 : decode cX12_first 31 = .ok (.if_icmp .ne 25, 3) := by decide +kernel
theorem dX12_first_34 : decode cX12_first 34 = .ok (.aload_n 0, 1) := by decide +kernel
theorem dX12_first_35 : decode cX12_first 35 = .ok (.iload_n 3, 1) := by decide +kernel
theorem dX12_first_36 : decode cX12_first 36 = .ok (.invokevirtual 315, 3) := by decide +kernel
theorem dX12_first_39 : decode cX12_first 39 = .ok (.ifCond .eq 17, 3) := by decide +kernel
theorem dX12_first_42 : decode cX12_first 42 = .ok (.aload_n 0, 1) := by decide +kernel
theorem dX12_first_43 : decode cX12_first 43 = .ok (.getfield 130, 3) := by decide +kernel
theorem dX12_first_46 : decode cX12_first 46 = .ok (.iload 4, 2) := by decide +kernel
theorem dX12_first_48 : decode cX12_first 48 = .ok (.baload, 1) := by decide +kernel
theorem dX12_first_49 : decode cX12_first 49 = .ok (.ifCond .ne 7, 3) := by decide +kernel
theorem dX12_first_52 : decode cX12_first 52 = .ok (.iconst 1, 1) := by decide +kernel
theorem dX12_first_53 : decode cX12_first 53 = .ok (.goto 4, 3) := by decide +kernel
theorem dX12_first_56 : decode cX12_first 56 = .ok (.iconst 0, 1) := by decide +kernel
theorem dX12_first_57 : decode cX12_first 57 = .ok (.istore 5, 2) := by decide +kernel
theorem dX12_first_59 : decode cX12_first 59 = .ok (.iload 5, 2) := by decide +kernel
theorem dX12_first_61 : decode cX12_first 61 = .ok (.ifCond .eq 35, 3) := by decide +kernel
theorem dX12_first_64 : decode cX12_first 64 = .ok (.iload_n 2, 1) := by decide +kernel
theorem dX12_first_65 : decode cX12_first 65 = .ok (.ifCond .lt 27, 3) := by decide +kernel
theorem dX12_first_68 : decode cX12_first 68 = .ok (.aload_n 0, 1) := by decide +kernel
theorem dX12_first_69 : decode cX12_first 69 = .ok (.getfield 106, 3) := by decide +kernel
theorem dX12_first_72 : decode cX12_first 72 = .ok (.iload 4, 2) := by decide +kernel
theorem dX12_first_74 : decode cX12_first 74 = .ok (.iaload, 1) := by decide +kernel
theorem dX12_first_75 : decode cX12_first 75 = .ok (.aload_n 0, 1) := by decide +kernel
theorem dX12_first_76 : decode cX12_first 76 = .ok (.getfield 106, 3) := by decide +kernel
theorem dX12_first_79 : decode cX12_first 79 = .ok (.bipush 10, 2) := by decide +kernel
theorem dX12_first_81 : decode cX12_first 81 = .ok (.aload_n 0, 1) := by decide +kernel
theorem dX12_first_82 : decode cX12_first 82 = .ok (.getfield 243, 3) := by decide +kernel
theorem dX12_first_85 : decode cX12_first 85 = .ok (.imul, 1) := by decide +kernel
theorem dX12_first_86 : decode cX12_first 86 = .ok (.iload_n 2, 1) := by decide +kernel
theorem dX12_first_87 : decode cX12_first 87 = .ok (.iadd, 1) := by decide +kernel
theorem dX12_first_88 : decode cX12_first 88 = .ok (.iaload, 1) := by decide +kernel
theorem dX12_first_89 : decode cX12_first 89 = .ok (.if_icmp .ge 7, 3) := by decide +kernel
theorem dX12_first_92 : decode cX12_first 92 = .ok (.iload_n 3, 1) := by decide +kernel
theorem dX12_first_93 : decode cX12_first 93 = .ok (.goto 4, 3) := by decide +kernel
theorem dX12_first_96 : decode cX12_first 96 = .ok (.iload_n 2, 1) := by decide +kernel
theorem dX12_first_97 : decode cX12_first 97 = .ok (.istore_n 2, 1) := by decide +kernel
theorem dX12_first_98 : decode cX12_first 98 = .ok (.iinc 3 1, 3) := by decide +kernel
theorem dX12_first_101 : decode cX12_first 101 = .ok (.goto (-97), 3) := by decide +kernel
theorem dX12_first_104 : decode cX12_first 104 = .ok (.iload_n 2, 1) := by decide +kernel
theorem dX12_first_105 : decode cX12_first 105 = .ok (.ireturn, 1) := by decide +kernel
theorem dX12_finish_0 : decode cX12_finish 0 = .ok (.iconst 0, 1) := by decide +kernel
theorem dX12_finish_1 : decode cX12_finish 1 = .ok (.istore_n 1, 1) := by decide +kernel
theorem dX12_finish_2 : decode cX12_finish 2 = .ok (.iload_n 1, 1) := by decide +kernel
theorem dX12_finish_3 : decode cX12_finish 3 = .ok (.aload_n 0, 1) := by decide +kernel
theorem dX12_finish_4 : decode cX12_finish 4 = .ok (.getfield 200, 3) := by decide +kernel
theorem dX12_finish_7 : decode cX12_finish 7 = .ok (.if_icmp .ge 75, 3) := by decide +kernel
theorem dX12_finish_10 : decode cX12_finish 10 = .ok (.bipush 10, 2) := by decide +kernel
theorem dX12_finish_12 : decode cX12_finish 12 = .ok (.aload_n 0, 1) := by decide +kernel
theorem dX12_finish_13 : decode cX12_finish 13 = .ok (.getfield 243, 3) := by decide +kernel
theorem dX12_finish_16 : decode cX12_finish 16 = .ok (.imul, 1) := by decide +kernel
theorem dX12_finish_17 : decode cX12_finish 17 = .ok (.iload_n 1, 1) := by decide +kernel
theorem dX12_finish_18 : decode cX12_finish 18 = .ok (.iadd, 1) := by decide +kernel
theorem dX12_finish_19 : decode cX12_finish 19 = .ok (.istore_n 2, 1) := by decide +kernel
theorem dX12_finish_20 : decode cX12_finish 20 = .ok (.aload_n 0, 1) := by decide +kernel
theorem dX12_finish_21 : decode cX12_finish 21 = .ok (.getfield 112, 3) := by decide +kernel
theorem dX12_finish_24 : decode cX12_finish 24 = .ok (.iload_n 2, 1) := by decide +kernel
theorem dX12_finish_25 : decode cX12_finish 25 = .ok (.iaload, 1) := by decide +kernel
theorem dX12_finish_26 : decode cX12_finish 26 = .ok (.ifCond .le 50, 3) := by decide +kernel
theorem dX12_finish_29 : decode cX12_finish 29 = .ok (.aload_n 0, 1) := by decide +kernel
theorem dX12_finish_30 : decode cX12_finish 30 = .ok (.getfield 112, 3) := by decide +kernel
theorem dX12_finish_33 : decode cX12_finish 33 = .ok (.iload_n 2, 1) := by decide +kernel
theorem dX12_finish_34 : decode cX12_finish 34 = .ok (.dup2, 1) := by decide +kernel
theorem dX12_finish_35 : decode cX12_finish 35 = .ok (.iaload, 1) := by decide +kernel
theorem dX12_finish_36 : decode cX12_finish 36 = .ok (.iconst 1, 1) := by decide +kernel
theorem dX12_finish_37 : decode cX12_finish 37 = .ok (.isub, 1) := by decide +kernel
theorem dX12_finish_38 : decode cX12_finish 38 = .ok (.iastore, 1) := by decide +kernel
theorem dX12_finish_39 : decode cX12_finish 39 = .ok (.aload_n 0, 1) := by decide +kernel
theorem dX12_finish_40 : decode cX12_finish 40 = .ok (.getfield 112, 3) := by decide +kernel
theorem dX12_finish_43 : decode cX12_finish 43 = .ok (.iload_n 2, 1) := by decide +kernel
theorem dX12_finish_44 : decode cX12_finish 44 = .ok (.iaload, 1) := by decide +kernel
theorem dX12_finish_45 : decode cX12_finish 45 = .ok (.ifCond .ne 31, 3) := by decide +kernel
theorem dX12_finish_48 : decode cX12_finish 48 = .ok (.aload_n 0, 1) := by decide +kernel
theorem dX12_finish_49 : decode cX12_finish 49 = .ok (.getfield 106, 3) := by decide +kernel
theorem dX12_finish_52 : decode cX12_finish 52 = .ok (.iload_n 2, 1) := by decide +kernel
theorem dX12_finish_53 : decode cX12_finish 53 = .ok (.aload_n 0, 1) := by decide +kernel
theorem dX12_finish_54 : decode cX12_finish 54 = .ok (.getfield 76, 3) := by decide +kernel
theorem dX12_finish_57 : decode cX12_finish 57 = .ok (.aload_n 0, 1) := by decide +kernel
theorem dX12_finish_58 : decode cX12_finish 58 = .ok (.getfield 243, 3) := by decide +kernel
theorem dX12_finish_61 : decode cX12_finish 61 = .ok (.iaload, 1) := by decide +kernel
theorem dX12_finish_62 : decode cX12_finish 62 = .ok (.iastore, 1) := by decide +kernel
theorem dX12_finish_63 : decode cX12_finish 63 = .ok (.aload_n 0, 1) := by decide +kernel
theorem dX12_finish_64 : decode cX12_finish 64 = .ok (.getfield 76, 3) := by decide +kernel
theorem dX12_finish_67 : decode cX12_finish 67 = .ok (.aload_n 0, 1) := by decide +kernel
theorem dX12_finish_68 : decode cX12_finish 68 = .ok (.getfield 243, 3) := by decide +kernel
theorem dX12_finish_71 : decode cX12_finish 71 = .ok (.dup2, 1) := by decide +kernel
theorem dX12_finish_72 : decode cX12_finish 72 = .ok (.iaload, 1) := by decide +kernel
theorem dX12_finish_73 : decode cX12_finish 73 = .ok (.iconst 1, 1) := by decide +kernel
theorem dX12_finish_74 : decode cX12_finish 74 = .ok (.iadd, 1) := by decide +kernel
theorem dX12_finish_75 : decode cX12_finish 75 = .ok (.iastore, 1) := by decide +kernel
theorem dX12_finish_76 : decode cX12_finish 76 = .ok (.iinc 1 1, 3) := by decide +kernel
theorem dX12_finish_79 : decode cX12_finish 79 = .ok (.goto (-77), 3) := by decide +kernel
theorem dX12_finish_82 : decode cX12_finish 82 = .ok (.iconst 0, 1) := by decide +kernel
theorem dX12_finish_83 : decode cX12_finish 83 = .ok (.istore_n 1, 1) := by decide +kernel
theorem dX12_finish_84 : decode cX12_finish 84 = .ok (.iload_n 1, 1) := by decide +kernel
theorem dX12_finish_85 : decode cX12_finish 85 = .ok (.aload_n 0, 1) := by decide +kernel
theorem dX12_finish_86 : decode cX12_finish 86 = .ok (.getfield 197, 3) := by decide +kernel
theorem dX12_finish_89 : decode cX12_finish 89 = .ok (.if_icmp .ge 98, 3) := by decide +kernel
theorem dX12_finish_92 : decode cX12_finish 92 = .ok (.aload_n 0, 1) := by decide +kernel
theorem dX12_finish_93 : decode cX12_finish 93 = .ok (.getfield 48, 3) := by decide +kernel
theorem dX12_finish_96 : decode cX12_finish 96 = .ok (.aload_n 0, 1) := by decide +kernel
theorem dX12_finish_97 : decode cX12_finish 97 = .ok (.getfield 243, 3) := by decide +kernel
theorem dX12_finish_100 : decode cX12_finish 100 = .ok (.iaload, 1) := by decide +kernel
theorem dX12_finish_101 : decode cX12_finish 101 = .ok (.ifCond .le 86, 3) := by decide +kernel
theorem dX12_finish_104 : decode cX12_finish 104 = .ok (.aload_n 0, 1) := by decide +kernel
theorem dX12_finish_105 : decode cX12_finish 105 = .ok (.getfield 54, 3) := by decide +kernel
theorem dX12_finish_108 : decode cX12_finish 108 = .ok (.aload_n 0, 1) := by decide +kernel
theorem dX12_finish_109 : decode cX12_finish 109 = .ok (.getfield 243, 3) := by decide +kernel
theorem dX12_finish_112 : decode cX12_finish 112 = .ok (.iaload, 1) := by decide +kernel
theorem dX12_finish_113 : decode cX12_finish 113 = .ok (.aload_n 0, 1) := by decide +kernel
theorem dX12_finish_114 : decode cX12_finish 114 = .ok (.getfield 48, 3) := by decide +kernel
theorem dX12_finish_117 : decode cX12_finish 117 = .ok (.aload_n 0, 1) := by decide +kernel
theorem dX12_finish_118 : decode cX12_finish 118 = .ok (.getfield 243, 3) := by decide +kernel
theorem dX12_finish_121 : decode cX12_finish 121 = .ok (.iaload, 1) := by decide +kernel
theorem dX12_finish_122 : decode cX12_finish 122 = .ok (.irem, 1) := by decide +kernel
theorem dX12_finish_123 : decode cX12_finish 123 = .ok (.ifCond .ne 64, 3) := by decide +kernel
theorem dX12_finish_126 : decode cX12_finish 126 = .ok (.aload_n 0, 1) := by decide +kernel
theorem dX12_finish_127 : decode cX12_finish 127 = .ok (.getfield 85, 3) := by decide +kernel
theorem dX12_finish_130 : decode cX12_finish 130 = .ok (.bipush 20, 2) := by decide +kernel
theorem dX12_finish_132 : decode cX12_finish 132 = .ok (.aload_n 0, 1) := by decide +kernel
theorem dX12_finish_133 : decode cX12_finish 133 = .ok (.getfield 243, 3) := by decide +kernel
theorem dX12_finish_136 : decode cX12_finish 136 = .ok (.imul, 1) := by decide +kernel
theorem dX12_finish_137 : decode cX12_finish 137 = .ok (.iload_n 1, 1) := by decide +kernel
theorem dX12_finish_138 : decode cX12_finish 138 = .ok (.iadd, 1) := by decide +kernel
theorem dX12_finish_139 : decode cX12_finish 139 = .ok (.aload_n 0, 1) := by decide +kernel
theorem dX12_finish_140 : decode cX12_finish 140 = .ok (.getfield 85, 3) := by decide +kernel
theorem dX12_finish_143 : decode cX12_finish 143 = .ok (.bipush 20, 2) := by decide +kernel
theorem dX12_finish_145 : decode cX12_finish 145 = .ok (.aload_n 0, 1) := by decide +kernel
theorem dX12_finish_146 : decode cX12_finish 146 = .ok (.getfield 243, 3) := by decide +kernel
theorem dX12_finish_149 : decode cX12_finish 149 = .ok (.imul, 1) := by decide +kernel
theorem dX12_finish_150 : decode cX12_finish 150 = .ok (.iload_n 1, 1) := by decide +kernel
theorem dX12_finish_151 : decode cX12_finish 151 = .ok (.iadd, 1) := by decide +kernel
theorem dX12_finish_152 : decode cX12_finish 152 = .ok (.baload, 1) := by decide +kernel
theorem dX12_finish_153 : decode cX12_finish 153 = .ok (.ifCond .ne 22, 3) := by decide +kernel
theorem dX12_finish_156 : decode cX12_finish 156 = .ok (.aload_n 0, 1) := by decide +kernel
theorem dX12_finish_157 : decode cX12_finish 157 = .ok (.getfield 79, 3) := by decide +kernel
theorem dX12_finish_160 : decode cX12_finish 160 = .ok (.bipush 20, 2) := by decide +kernel
theorem dX12_finish_162 : decode cX12_finish 162 = .ok (.aload_n 0, 1) := by decide +kernel
theorem dX12_finish_163 : decode cX12_finish 163 = .ok (.getfield 243, 3) := by decide +kernel
theorem dX12_finish_166 : decode cX12_finish 166 = .ok (.imul, 1) := by decide +kernel
theorem dX12_finish_167 : decode cX12_finish 167 = .ok (.iload_n 1, 1) := by decide +kernel
theorem dX12_finish_168 : decode cX12_finish 168 = .ok (.iadd, 1) := by decide +kernel
theorem dX12_finish_169 : decode cX12_finish 169 = .ok (.iaload, 1) := by decide +kernel
theorem dX12_finish_170 : decode cX12_finish 170 = .ok (.bipush (-2), 2) := by decide +kernel
theorem dX12_finish_172 : decode cX12_finish 172 = .ok (.if_icmp .eq 7, 3) := by decide +kernel
theorem dX12_finish_175 : decode cX12_finish 175 = .ok (.iconst 1, 1) := by decide +kernel
theorem dX12_finish_176 : decode cX12_finish 176 = .ok (.goto 4, 3) := by decide +kernel
theorem dX12_finish_179 : decode cX12_finish 179 = .ok (.iconst 0, 1) := by decide +kernel
theorem dX12_finish_180 : decode cX12_finish 180 = .ok (.bastore, 1) := by decide +kernel
theorem dX12_finish_181 : decode cX12_finish 181 = .ok (.iinc 1 1, 3) := by decide +kernel
theorem dX12_finish_184 : decode cX12_finish 184 = .ok (.goto (-100), 3) := by decide +kernel
theorem dX12_finish_187 : decode cX12_finish 187 = .ok (.aload_n 0, 1) := by decide +kernel
theorem dX12_finish_188 : decode cX12_finish 188 = .ok (.getfield 54, 3) := by decide +kernel
theorem dX12_finish_191 : decode cX12_finish 191 = .ok (.aload_n 0, 1) := by decide +kernel
theorem dX12_finish_192 : decode cX12_finish 192 = .ok (.getfield 243, 3) := by decide +kernel
theorem dX12_finish_195 : decode cX12_finish 195 = .ok (.dup2, 1) := by decide +kernel
theorem dX12_finish_196 : decode cX12_finish 196 = .ok (.iaload, 1) := by decide +kernel
theorem dX12_finish_197 : decode cX12_finish 197 = .ok (.iconst 1, 1) := by decide +kernel
theorem dX12_finish_198 : decode cX12_finish 198 = .ok (.iadd, 1) := by decide +kernel
theorem dX12_finish_199 : decode cX12_finish 199 = .ok (.iastore, 1) := by decide +kernel
theorem dX12_finish_200 : decode cX12_finish 200 = .ok (.return_, 1) := by decide +kernel
theorem dX12_oneTick_0 : decode cX12_oneTick 0 = .ok (.iconst 0, 1) := by decide +kernel
theorem dX12_oneTick_1 : decode cX12_oneTick 1 = .ok (.istore_n 1, 1) := by decide +kernel
theorem dX12_oneTick_2 : decode cX12_oneTick 2 = .ok (.iload_n 1, 1) := by decide +kernel
theorem dX12_oneTick_3 : decode cX12_oneTick 3 = .ok (.bipush 16, 2) := by decide +kernel
theorem dX12_oneTick_5 : decode cX12_oneTick 5 = .ok (.if_icmp .ge 24, 3) := by decide +kernel
theorem dX12_oneTick_8 : decode cX12_oneTick 8 = .ok (.aload_n 0, 1) := by decide +kernel
theorem dX12_oneTick_9 : decode cX12_oneTick 9 = .ok (.getfield 136, 3) := by decide +kernel
theorem dX12_oneTick_12 : decode cX12_oneTick 12 = .ok (.bipush 16, 2) := by decide +kernel
theorem dX12_oneTick_14 : decode cX12_oneTick 14 = .ok (.aload_n 0, 1) := by decide +kernel
theorem dX12_oneTick_15 : decode cX12_oneTick 15 = .ok (.getfield 243, 3) := by decide +kernel
theorem dX12_oneTick_18 : decode cX12_oneTick 18 = .ok (.imul, 1) := by decide +kernel
theorem dX12_oneTick_19 : decode cX12_oneTick 19 = .ok (.iload_n 1, 1) := by decide +kernel
theorem dX12_oneTick_20 : decode cX12_oneTick 20 = .ok (.iadd, 1) := by decide +kernel
theorem dX12_oneTick_21 : decode cX12_oneTick 21 = .ok (.iconst 0, 1) := by decide +kernel
theorem dX12_oneTick_22 : decode cX12_oneTick 22 = .ok (.iastore, 1) := by decide +kernel
theorem dX12_oneTick_23 : decode cX12_oneTick 23 = .ok (.iinc 1 1, 3) := by decide +kernel
theorem dX12_oneTick_26 : decode cX12_oneTick 26 = .ok (.goto (-24), 3) := by decide +kernel
theorem dX12_oneTick_29 : decode cX12_oneTick 29 = .ok (.iconst 0, 1) := by decide +kernel
theorem dX12_oneTick_30 : decode cX12_oneTick 30 = .ok (.istore_n 1, 1) := by decide +kernel
theorem dX12_oneTick_31 : decode cX12_oneTick 31 = .ok (.iload_n 1, 1) := by decide +kernel
theorem dX12_oneTick_32 : decode cX12_oneTick 32 = .ok (.aload_n 0, 1) := by decide +kernel
theorem dX12_oneTick_33 : decode cX12_oneTick 33 = .ok (.getfield 200, 3) := by decide +kernel
theorem dX12_oneTick_36 : decode cX12_oneTick 36 = .ok (.if_icmp .ge 24, 3) := by decide +kernel
theorem dX12_oneTick_39 : decode cX12_oneTick 39 = .ok (.aload_n 0, 1) := by decide +kernel
theorem dX12_oneTick_40 : decode cX12_oneTick 40 = .ok (.getfield 130, 3) := by decide +kernel
theorem dX12_oneTick_43 : decode cX12_oneTick 43 = .ok (.bipush 10, 2) := by decide +kernel
theorem dX12_oneTick_45 : decode cX12_oneTick 45 = .ok (.aload_n 0, 1) := by decide +kernel
theorem dX12_oneTick_46 : decode cX12_oneTick 46 = .ok (.getfield 243, 3) := by decide +kernel
theorem dX12_oneTick_49 : decode cX12_oneTick 49 = .ok (.imul, 1) := by decide +kernel
theorem dX12_oneTick_50 : decode cX12_oneTick 50 = .ok (.iload_n 1, 1) := by decide +kernel
theorem dX12_oneTick_51 : decode cX12_oneTick 51 = .ok (.iadd, 1) := by decide +kernel
theorem dX12_oneTick_52 : decode cX12_oneTick 52 = .ok (.iconst 0, 1) := by decide +kernel
theorem dX12_oneTick_53 : decode cX12_oneTick 53 = .ok (.bastore, 1) := by decide +kernel
theorem dX12_oneTick_54 : decode cX12_oneTick 54 = .ok (.iinc 1 1, 3) := by decide +kernel
theorem dX12_oneTick_57 : decode cX12_oneTick 57 = .ok (.goto (-26), 3) := by decide +kernel
theorem dX12_oneTick_60 : decode cX12_oneTick 60 = .ok (.iconst 0, 1) := by decide +kernel
theorem dX12_oneTick_61 : decode cX12_oneTick 61 = .ok (.istore_n 1, 1) := by decide +kernel
theorem dX12_oneTick_62 : decode cX12_oneTick 62 = .ok (.iload_n 1, 1) := by decide +kernel
theorem dX12_oneTick_63 : decode cX12_oneTick 63 = .ok (.aload_n 0, 1) := by decide +kernel
theorem dX12_oneTick_64 : decode cX12_oneTick 64 = .ok (.getfield 182, 3) := by decide +kernel
theorem dX12_oneTick_67 : decode cX12_oneTick 67 = .ok (.if_icmp .ge 60, 3) := by decide +kernel
theorem dX12_oneTick_70 : decode cX12_oneTick 70 = .ok (.aload_n 0, 1) := by decide +kernel
theorem dX12_oneTick_71 : decode cX12_oneTick 71 = .ok (.iload_n 1, 1) := by decide +kernel
theorem dX12_oneTick_72 : decode cX12_oneTick 72 = .ok (.invokevirtual 318, 3) := by decide +kernel
theorem dX12_oneTick_75 : decode cX12_oneTick 75 = .ok (.istore_n 2, 1) := by decide +kernel
theorem dX12_oneTick_76 : decode cX12_oneTick 76 = .ok (.iload_n 2, 1) := by decide +kernel
theorem dX12_oneTick_77 : decode cX12_oneTick 77 = .ok (.ifCond .lt 44, 3) := by decide +kernel
theorem dX12_oneTick_80 : decode cX12_oneTick 80 = .ok (.aload_n 0, 1) := by decide +kernel
theorem dX12_oneTick_81 : decode cX12_oneTick 81 = .ok (.iload_n 1, 1) := by decide +kernel
theorem dX12_oneTick_82 : decode cX12_oneTick 82 = .ok (.invokevirtual 321, 3) := by decide +kernel
theorem dX12_oneTick_85 : decode cX12_oneTick 85 = .ok (.aload_n 0, 1) := by decide +kernel
theorem dX12_oneTick_86 : decode cX12_oneTick 86 = .ok (.getfield 185, 3) := by decide +kernel
theorem dX12_oneTick_89 : decode cX12_oneTick 89 = .ok (.if_icmp .ge 32, 3) := by decide +kernel
theorem dX12_oneTick_92 : decode cX12_oneTick 92 = .ok (.aload_n 0, 1) := by decide +kernel
theorem dX12_oneTick_93 : decode cX12_oneTick 93 = .ok (.getfield 130, 3) := by decide +kernel
theorem dX12_oneTick_96 : decode cX12_oneTick 96 = .ok (.bipush 10, 2) := by decide +kernel
theorem dX12_oneTick_98 : decode cX12_oneTick 98 = .ok (.aload_n 0, 1) := by decide +kernel
theorem dX12_oneTick_99 : decode cX12_oneTick 99 = .ok (.getfield 243, 3) := by decide +kernel
theorem dX12_oneTick_102 : decode cX12_oneTick 102 = .ok (.imul, 1) := by decide +kernel
theorem dX12_oneTick_103 : decode cX12_oneTick 103 = .ok (.iload_n 2, 1) := by decide +kernel
theorem dX12_oneTick_104 : decode cX12_oneTick 104 = .ok (.iadd, 1) := by decide +kernel
theorem dX12_oneTick_105 : decode cX12_oneTick 105 = .ok (.iconst 1, 1) := by decide +kernel
theorem dX12_oneTick_106 : decode cX12_oneTick 106 = .ok (.bastore, 1) := by decide +kernel
theorem dX12_oneTick_107 : decode cX12_oneTick 107 = .ok (.aload_n 0, 1) := by decide +kernel
theorem dX12_oneTick_108 : decode cX12_oneTick 108 = .ok (.iload_n 2, 1) := by decide +kernel
theorem dX12_oneTick_109 : decode cX12_oneTick 109 = .ok (.invokevirtual 324, 3) := by decide +kernel
theorem dX12_oneTick_112 : decode cX12_oneTick 112 = .ok (.aload_n 0, 1) := by decide +kernel
theorem dX12_oneTick_113 : decode cX12_oneTick 113 = .ok (.iload_n 1, 1) := by decide +kernel
theorem dX12_oneTick_114 : decode cX12_oneTick 114 = .ok (.invokevirtual 318, 3) := by decide +kernel
theorem dX12_oneTick_117 : decode cX12_oneTick 117 = .ok (.istore_n 2, 1) := by decide +kernel
theorem dX12_oneTick_118 : decode cX12_oneTick 118 = .ok (.goto (-42), 3) := by decide +kernel
theorem dX12_oneTick_121 : decode cX12_oneTick 121 = .ok (.iinc 1 1, 3) := by decide +kernel
theorem dX12_oneTick_124 : decode cX12_oneTick 124 = .ok (.goto (-62), 3) := by decide +kernel
theorem dX12_oneTick_127 : decode cX12_oneTick 127 = .ok (.aload_n 0, 1) := by decide +kernel
theorem dX12_oneTick_128 : decode cX12_oneTick 128 = .ok (.invokevirtual 327, 3) := by decide +kernel
theorem dX12_oneTick_131 : decode cX12_oneTick 131 = .ok (.return_, 1) := by decide +kernel
theorem dX12_run_0 : decode cX12_run 0 = .ok (.aload_n 0, 1) := by decide +kernel
theorem dX12_run_1 : decode cX12_run 1 = .ok (.iconst 0, 1) := by decide +kernel
theorem dX12_run_2 : decode cX12_run 2 = .ok (.putfield 194, 3) := by decide +kernel
theorem dX12_run_5 : decode cX12_run 5 = .ok (.iload_n 1, 1) := by decide +kernel
theorem dX12_run_6 : decode cX12_run 6 = .ok (.i2l, 1) := by decide +kernel
theorem dX12_run_7 : decode cX12_run 7 = .ok (.lconst 1, 1) := by decide +kernel
theorem dX12_run_8 : decode cX12_run 8 = .ok (.ldc2_w 330, 3) := by decide +kernel
theorem dX12_run_11 : decode cX12_run 11 = .ok (.invokestatic 214, 3) := by decide +kernel
theorem dX12_run_14 : decode cX12_run 14 = .ok (.ifCond .ne 5, 3) := by decide +kernel
theorem dX12_run_17 : decode cX12_run 17 = .ok (.iconst (-1), 1) := by decide +kernel
theorem dX12_run_18 : decode cX12_run 18 = .ok (.ireturn, 1) := by decide +kernel
theorem dX12_run_19 : decode cX12_run 19 = .ok (.aload_n 0, 1) := by decide +kernel
theorem dX12_run_20 : decode cX12_run 20 = .ok (.getfield 60, 3) := by decide +kernel
theorem dX12_run_23 : decode cX12_run 23 = .ok (.iconst 0, 1) := by decide +kernel
theorem dX12_run_24 : decode cX12_run 24 = .ok (.iaload, 1) := by decide +kernel
theorem dX12_run_25 : decode cX12_run 25 = .ok (.istore_n 2, 1) := by decide +kernel
theorem dX12_run_26 : decode cX12_run 26 = .ok (.iconst 0, 1) := by decide +kernel
theorem dX12_run_27 : decode cX12_run 27 = .ok (.istore_n 3, 1) := by decide +kernel
theorem dX12_run_28 : decode cX12_run 28 = .ok (.iload_n 3, 1) := by decide +kernel
theorem dX12_run_29 : decode cX12_run 29 = .ok (.iload_n 1, 1) := by decide +kernel
theorem dX12_run_30 : decode cX12_run 30 = .ok (.if_icmp .ge 13, 3) := by decide +kernel
theorem dX12_run_33 : decode cX12_run 33 = .ok (.aload_n 0, 1) := by decide +kernel
theorem dX12_run_34 : decode cX12_run 34 = .ok (.invokevirtual 332, 3) := by decide +kernel
theorem dX12_run_37 : decode cX12_run 37 = .ok (.iinc 3 1, 3) := by decide +kernel
theorem dX12_run_40 : decode cX12_run 40 = .ok (.goto (-12), 3) := by decide +kernel
theorem dX12_run_43 : decode cX12_run 43 = .ok (.aload_n 0, 1) := by decide +kernel
theorem dX12_run_44 : decode cX12_run 44 = .ok (.getfield 60, 3) := by decide +kernel
theorem dX12_run_47 : decode cX12_run 47 = .ok (.iconst 0, 1) := by decide +kernel
theorem dX12_run_48 : decode cX12_run 48 = .ok (.iaload, 1) := by decide +kernel
theorem dX12_run_49 : decode cX12_run 49 = .ok (.iload_n 2, 1) := by decide +kernel
theorem dX12_run_50 : decode cX12_run 50 = .ok (.isub, 1) := by decide +kernel
theorem dX12_run_51 : decode cX12_run 51 = .ok (.ireturn, 1) := by decide +kernel
theorem dX12_look_0 : decode cX12_look 0 = .ok (.aload_n 0, 1) := by decide +kernel
theorem dX12_look_1 : decode cX12_look 1 = .ok (.iconst 0, 1) := by decide +kernel
theorem dX12_look_2 : decode cX12_look 2 = .ok (.putfield 194, 3) := by decide +kernel
theorem dX12_look_5 : decode cX12_look 5 = .ok (.aload_n 0, 1) := by decide +kernel
theorem dX12_look_6 : decode cX12_look 6 = .ok (.iload_n 1, 1) := by decide +kernel
theorem dX12_look_7 : decode cX12_look 7 = .ok (.invokevirtual 253, 3) := by decide +kernel
theorem dX12_look_10 : decode cX12_look 10 = .ok (.ifCond .ne 5, 3) := by decide +kernel
theorem dX12_look_13 : decode cX12_look 13 = .ok (.iconst (-1), 1) := by decide +kernel
theorem dX12_look_14 : decode cX12_look 14 = .ok (.ireturn, 1) := by decide +kernel
theorem dX12_look_15 : decode cX12_look 15 = .ok (.iload_n 2, 1) := by decide +kernel
theorem dX12_look_16 : decode cX12_look 16 = .ok (.tableswitch 102 0 6 #[44, 51, 58, 65, 80, 87, 94], 44) := by decide +kernel
theorem dX12_look_60 : decode cX12_look 60 = .ok (.aload_n 0, 1) := by decide +kernel
theorem dX12_look_61 : decode cX12_look 61 = .ok (.getfield 19, 3) := by decide +kernel
theorem dX12_look_64 : decode cX12_look 64 = .ok (.iload_n 1, 1) := by decide +kernel
theorem dX12_look_65 : decode cX12_look 65 = .ok (.iaload, 1) := by decide +kernel
theorem dX12_look_66 : decode cX12_look 66 = .ok (.ireturn, 1) := by decide +kernel
theorem dX12_look_67 : decode cX12_look 67 = .ok (.aload_n 0, 1) := by decide +kernel
theorem dX12_look_68 : decode cX12_look 68 = .ok (.getfield 79, 3) := by decide +kernel
theorem dX12_look_71 : decode cX12_look 71 = .ok (.iload_n 1, 1) := by decide +kernel
theorem dX12_look_72 : decode cX12_look 72 = .ok (.iaload, 1) := by decide +kernel
theorem dX12_look_73 : decode cX12_look 73 = .ok (.ireturn, 1) := by decide +kernel
theorem dX12_look_74 : decode cX12_look 74 = .ok (.aload_n 0, 1) := by decide +kernel
theorem dX12_look_75 : decode cX12_look 75 = .ok (.getfield 82, 3) := by decide +kernel
theorem dX12_look_78 : decode cX12_look 78 = .ok (.iload_n 1, 1) := by decide +kernel
theorem dX12_look_79 : decode cX12_look 79 = .ok (.iaload, 1) := by decide +kernel
theorem dX12_look_80 : decode cX12_look 80 = .ok (.ireturn, 1) := by decide +kernel
theorem dX12_look_81 : decode cX12_look 81 = .ok (.aload_n 0, 1) := by decide +kernel
theorem dX12_look_82 : decode cX12_look 82 = .ok (.getfield 85, 3) := by decide +kernel
theorem dX12_look_85 : decode cX12_look 85 = .ok (.iload_n 1, 1) := by decide +kernel
theorem dX12_look_86 : decode cX12_look 86 = .ok (.baload, 1) := by decide +kernel
theorem dX12_look_87 : decode cX12_look 87 = .ok (.ifCond .eq 7, 3) := by decide +kernel
theorem dX12_look_90 : decode cX12_look 90 = .ok (.iconst 1, 1) := by decide +kernel
