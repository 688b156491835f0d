theorem dX3_init_0 : decode cX3_init 0 = .ok (.aload_n 0, 1) := by decide +kernel
theorem dX3_init_1 : decode cX3_init 1 = .ok (.invokespecial 3, 3) := by decide +kernel
theorem dX3_init_4 : decode cX3_init 4 = .ok (.aload_n 0, 1) := by decide +kernel
theorem dX3_init_5 : decode cX3_init 5 = .ok (.new 9, 3) := by decide +kernel
theorem dX3_init_8 : decode cX3_init 8 = .ok (.dup, 1) := by decide +kernel
theorem dX3_init_9 : decode cX3_init 9 = .ok (.invokespecial 11, 3) := by decide +kernel
theorem dX3_init_12 : decode cX3_init 12 = .ok (.putfield 12, 3) := by decide +kernel
theorem dX3_init_15 : decode cX3_init 15 = .ok (.aload_n 0, 1) := by decide +kernel
theorem dX3_init_16 : decode cX3_init 16 = .ok (.new 18, 3) := by decide +kernel
theorem dX3_init_19 : decode cX3_init 19 = .ok (.dup, 1) := by decide +kernel
theorem dX3_init_20 : decode cX3_init 20 = .ok (.invokespecial 20, 3) := by decide +kernel
theorem dX3_init_23 : decode cX3_init 23 = .ok (.putfield 21, 3) := by decide +kernel
theorem dX3_init_26 : decode cX3_init 26 = .ok (.aload_n 0, 1) := by decide +kernel
theorem dX3_init_27 : decode cX3_init 27 = .ok (.new 25, 3) := by decide +kernel
theorem dX3_init_30 : decode cX3_init 30 = .ok (.dup, 1) := by decide +kernel
theorem dX3_init_31 : decode cX3_init 31 = .ok (.invokespecial 27, 3) := by decide +kernel
theorem dX3_init_34 : decode cX3_init 34 = .ok (.putfield 28, 3) := by decide +kernel
theorem dX3_init_37 : decode cX3_init 37 = .ok (.aload_n 0, 1) := by decide +kernel
theorem dX3_init_38 : decode cX3_init 38 = .ok (.bipush 20, 2) := by decide +kernel
theorem dX3_init_40 : decode cX3_init 40 = .ok (.anewarray 32, 3) := by decide +kernel
theorem dX3_init_43 : decode cX3_init 43 = .ok (.putfield 34, 3) := by decide +kernel
theorem dX3_init_46 : decode cX3_init 46 = .ok (.aload_n 0, 1) := by decide +kernel
theorem dX3_init_47 : decode cX3_init 47 = .ok (.bipush 10, 2) := by decide +kernel
theorem dX3_init_49 : decode cX3_init 49 = .ok (.anewarray 38, 3) := by decide +kernel
theorem dX3_init_52 : decode cX3_init 52 = .ok (.putfield 40, 3) := by decide +kernel
theorem dX3_init_55 : decode cX3_init 55 = .ok (.aload_n 0, 1) := by decide +kernel
theorem dX3_init_56 : decode cX3_init 56 = .ok (.iconst 4, 1) := by decide +kernel
theorem dX3_init_57 : decode cX3_init 57 = .ok (.newarray .int, 2) := by decide +kernel
theorem dX3_init_59 : decode cX3_init 59 = .ok (.putfield 44, 3) := by decide +kernel
theorem dX3_init_62 : decode cX3_init 62 = .ok (.aload_n 0, 1) := by decide +kernel
theorem dX3_init_63 : decode cX3_init 63 = .ok (.iconst 4, 1) := by decide +kernel
theorem dX3_init_64 : decode cX3_init 64 = .ok (.newarray .int, 2) := by decide +kernel
theorem dX3_init_66 : decode cX3_init 66 = .ok (.putfield 48, 3) := by decide +kernel
theorem dX3_init_69 : decode cX3_init 69 = .ok (.aload_n 0, 1) := by decide +kernel
theorem dX3_init_70 : decode cX3_init 70 = .ok (.iconst 1, 1) := by decide +kernel
theorem dX3_init_71 : decode cX3_init 71 = .ok (.putfield 51, 3) := by decide +kernel
theorem dX3_init_74 : decode cX3_init 74 = .ok (.aload_n 0, 1) := by decide +kernel
theorem dX3_init_75 : decode cX3_init 75 = .ok (.aload_n 1, 1) := by decide +kernel
theorem dX3_init_76 : decode cX3_init 76 = .ok (.putfield 55, 3) := by decide +kernel
theorem dX3_init_79 : decode cX3_init 79 = .ok (.aload_n 0, 1) := by decide +kernel
theorem dX3_init_80 : decode cX3_init 80 = .ok (.new 59, 3) := by decide +kernel
theorem dX3_init_83 : decode cX3_init 83 = .ok (.dup, 1) := by decide +kernel
theorem dX3_init_84 : decode cX3_init 84 = .ok (.aload_n 1, 1) := by decide +kernel
theorem dX3_init_85 : decode cX3_init 85 = .ok (.invokespecial 61, 3) := by decide +kernel
theorem dX3_init_88 : decode cX3_init 88 = .ok (.putfield 64, 3) := by decide +kernel
theorem dX3_init_91 : decode cX3_init 91 = .ok (.aload_n 0, 1) := by decide +kernel
theorem dX3_init_92 : decode cX3_init 92 = .ok (.new 68, 3) := by decide +kernel
theorem dX3_init_95 : decode cX3_init 95 = .ok (.dup, 1) := by decide +kernel
theorem dX3_init_96 : decode cX3_init 96 = .ok (.iload_n 3, 1) := by decide +kernel
theorem dX3_init_97 : decode cX3_init 97 = .ok (.invokespecial 70, 3) := by decide +kernel
theorem dX3_init_100 : decode cX3_init 100 = .ok (.putfield 73, 3) := by decide +kernel
theorem dX3_init_103 : decode cX3_init 103 = .ok (.iconst 0, 1) := by decide +kernel
theorem dX3_init_104 : decode cX3_init 104 = .ok (.istore 4, 2) := by decide +kernel
theorem dX3_init_106 : decode cX3_init 106 = .ok (.iload 4, 2) := by decide +kernel
theorem dX3_init_108 : decode cX3_init 108 = .ok (.bipush 20, 2) := by decide +kernel
theorem dX3_init_110 : decode cX3_init 110 = .ok (.if_icmp .ge 23, 3) := by decide +kernel
theorem dX3_init_113 : decode cX3_init 113 = .ok (.aload_n 0, 1) := by decide +kernel
theorem dX3_init_114 : decode cX3_init 114 = .ok (.getfield 34, 3) := by decide +kernel
theorem dX3_init_117 : decode cX3_init 117 = .ok (.iload 4, 2) := by decide +kernel
theorem dX3_init_119 : decode cX3_init 119 = .ok (.new 32, 3) := by decide +kernel
theorem dX3_init_122 : decode cX3_init 122 = .ok (.dup, 1) := by decide +kernel
theorem dX3_init_123 : decode cX3_init 123 = .ok (.invokespecial 77, 3) := by decide +kernel
theorem dX3_init_126 : decode cX3_init 126 = .ok (.aastore, 1) := by decide +kernel
theorem dX3_init_127 : decode cX3_init 127 = .ok (.iinc 4 1, 3) := by decide +kernel
theorem dX3_init_130 : decode cX3_init 130 = .ok (.goto (-24), 3) := by decide +kernel
theorem dX3_init_133 : decode cX3_init 133 = .ok (.iconst 0, 1) := by decide +kernel
theorem dX3_init_134 : decode cX3_init 134 = .ok (.istore 4, 2) := by decide +kernel
theorem dX3_init_136 : decode cX3_init 136 = .ok (.iload 4, 2) := by decide +kernel
theorem dX3_init_138 : decode cX3_init 138 = .ok (.bipush 10, 2) := by decide +kernel
theorem dX3_init_140 : decode cX3_init 140 = .ok (.if_icmp .ge 27, 3) := by decide +kernel
theorem dX3_init_143 : decode cX3_init 143 = .ok (.aload_n 0, 1) := by decide +kernel
theorem dX3_init_144 : decode cX3_init 144 = .ok (.getfield 40, 3) := by decide +kernel
theorem dX3_init_147 : decode cX3_init 147 = .ok (.iload 4, 2) := by decide +kernel
theorem dX3_init_149 : decode cX3_init 149 = .ok (.new 38, 3) := by decide +kernel
theorem dX3_init_152 : decode cX3_init 152 = .ok (.dup, 1) := by decide +kernel
theorem dX3_init_153 : decode cX3_init 153 = .ok (.aload_n 2, 1) := by decide +kernel
theorem dX3_init_154 : decode cX3_init 154 = .ok (.iload 4, 2) := by decide +kernel
theorem dX3_init_156 : decode cX3_init 156 = .ok (.aaload, 1) := by decide +kernel
theorem dX3_init_157 : decode cX3_init 157 = .ok (.invokespecial 78, 3) := by decide +kernel
theorem dX3_init_160 : decode cX3_init 160 = .ok (.aastore, 1) := by decide +kernel
theorem dX3_init_161 : decode cX3_init 161 = .ok (.iinc 4 1, 3) := by decide +kernel
theorem dX3_init_164 : decode cX3_init 164 = .ok (.goto (-28), 3) := by decide +kernel
theorem dX3_init_167 : decode cX3_init 167 = .ok (.return_, 1) := by decide +kernel
theorem dX3_beginLike_0 : decode cX3_beginLike 0 = .ok (.aload_n 0, 1) := by decide +kernel
theorem dX3_beginLike_1 : decode cX3_beginLike 1 = .ok (.getfield 64, 3) := by decide +kernel
theorem dX3_beginLike_4 : decode cX3_beginLike 4 = .ok (.invokevirtual 81, 3) := by decide +kernel
theorem dX3_beginLike_7 : decode cX3_beginLike 7 = .ok (.aload_n 0, 1) := by decide +kernel
theorem dX3_beginLike_8 : decode cX3_beginLike 8 = .ok (.getfield 12, 3) := by decide +kernel
theorem dX3_beginLike_11 : decode cX3_beginLike 11 = .ok (.invokevirtual 84, 3) := by decide +kernel
theorem dX3_beginLike_14 : decode cX3_beginLike 14 = .ok (.aload_n 0, 1) := by decide +kernel
theorem dX3_beginLike_15 : decode cX3_beginLike 15 = .ok (.getfield 44, 3) := by decide +kernel
theorem dX3_beginLike_18 : decode cX3_beginLike 18 = .ok (.iconst 0, 1) := by decide +kernel
theorem dX3_beginLike_19 : decode cX3_beginLike 19 = .ok (.invokestatic 85, 3) := by decide +kernel
theorem dX3_beginLike_22 : decode cX3_beginLike 22 = .ok (.aload_n 0, 1) := by decide +kernel
theorem dX3_beginLike_23 : decode cX3_beginLike 23 = .ok (.getfield 48, 3) := by decide +kernel
theorem dX3_beginLike_26 : decode cX3_beginLike 26 = .ok (.iconst 0, 1) := by decide +kernel
theorem dX3_beginLike_27 : decode cX3_beginLike 27 = .ok (.invokestatic 85, 3) := by decide +kernel
theorem dX3_beginLike_30 : decode cX3_beginLike 30 = .ok (.aload_n 0, 1) := by decide +kernel
theorem dX3_beginLike_31 : decode cX3_beginLike 31 = .ok (.iconst 0, 1) := by decide +kernel
theorem dX3_beginLike_32 : decode cX3_beginLike 32 = .ok (.putfield 91, 3) := by decide +kernel
theorem dX3_beginLike_35 : decode cX3_beginLike 35 = .ok (.aload_n 0, 1) := by decide +kernel
theorem dX3_beginLike_36 : decode cX3_beginLike 36 = .ok (.iconst 0, 1) := by decide +kernel
theorem dX3_beginLike_37 : decode cX3_beginLike 37 = .ok (.putfield 94, 3) := by decide +kernel
theorem dX3_beginLike_40 : decode cX3_beginLike 40 = .ok (.aload_n 0, 1) := by decide +kernel
theorem dX3_beginLike_41 : decode cX3_beginLike 41 = .ok (.iconst 0, 1) := by decide +kernel
theorem dX3_beginLike_42 : decode cX3_beginLike 42 = .ok (.putfield 97, 3) := by decide +kernel
theorem dX3_beginLike_45 : decode cX3_beginLike 45 = .ok (.aload_n 0, 1) := by decide +kernel
theorem dX3_beginLike_46 : decode cX3_beginLike 46 = .ok (.iconst 1, 1) := by decide +kernel
theorem dX3_beginLike_47 : decode cX3_beginLike 47 = .ok (.putfield 51, 3) := by decide +kernel
theorem dX3_beginLike_50 : decode cX3_beginLike 50 = .ok (.aload_n 0, 1) := by decide +kernel
theorem dX3_beginLike_51 : decode cX3_beginLike 51 = .ok (.iconst 0, 1) := by decide +kernel
theorem dX3_beginLike_52 : decode cX3_beginLike 52 = .ok (.putfield 100, 3) := by decide +kernel
theorem dX3_beginLike_55 : decode cX3_beginLike 55 = .ok (.aload_n 0, 1) := by decide +kernel
theorem dX3_beginLike_56 : decode cX3_beginLike 56 = .ok (.iconst 0, 1) := by decide +kernel
theorem dX3_beginLike_57 : decode cX3_beginLike 57 = .ok (.putfield 103, 3) := by decide +kernel
theorem dX3_beginLike_60 : decode cX3_beginLike 60 = .ok (.aload_n 0, 1) := by decide +kernel
theorem dX3_beginLike_61 : decode cX3_beginLike 61 = .ok (.iconst 0, 1) := by decide +kernel
theorem dX3_beginLike_62 : decode cX3_beginLike 62 = .ok (.putfield 106, 3) := by decide +kernel
theorem dX3_beginLike_65 : decode cX3_beginLike 65 = .ok (.aload_n 0, 1) := by decide +kernel
theorem dX3_beginLike_66 : decode cX3_beginLike 66 = .ok (.iconst 0, 1) := by decide +kernel
theorem dX3_beginLike_67 : decode cX3_beginLike 67 = .ok (.putfield 109, 3) := by decide +kernel
theorem dX3_beginLike_70 : decode cX3_beginLike 70 = .ok (.aload_n 0, 1) := by decide +kernel
theorem dX3_beginLike_71 : decode cX3_beginLike 71 = .ok (.iconst 0, 1) := by decide +kernel
theorem dX3_beginLike_72 : decode cX3_beginLike 72 = .ok (.putfield 112, 3) := by decide +kernel
theorem dX3_beginLike_75 : decode cX3_beginLike 75 = .ok (.iconst 0, 1) := by decide +kernel
theorem dX3_beginLike_76 : decode cX3_beginLike 76 = .ok (.istore_n 2, 1) := by decide +kernel
theorem dX3_beginLike_77 : decode cX3_beginLike 77 = .ok (.iload_n 2, 1) := by decide +kernel
theorem dX3_beginLike_78 : decode cX3_beginLike 78 = .ok (.aload_n 1, 1) := by decide +kernel
theorem dX3_beginLike_79 : decode cX3_beginLike 79 = .ok (.getfield 91, 3) := by decide +kernel
theorem dX3_beginLike_82 : decode cX3_beginLike 82 = .ok (.if_icmp .ge 23, 3) := by decide +kernel
theorem dX3_beginLike_85 : decode cX3_beginLike 85 = .ok (.aload_n 0, 1) := by decide +kernel
theorem dX3_beginLike_86 : decode cX3_beginLike 86 = .ok (.aload_n 1, 1) := by decide +kernel
theorem dX3_beginLike_87 : decode cX3_beginLike 87 = .ok (.getfield 34, 3) := by decide +kernel
theorem dX3_beginLike_90 : decode cX3_beginLike 90 = .ok (.iload_n 2, 1) := by decide +kernel
theorem dX3_beginLike_91 : decode cX3_beginLike 91 = .ok (.aaload, 1) := by decide +kernel
theorem dX3_beginLike_92 : decode cX3_beginLike 92 = .ok (.getfield 115, 3) := by decide +kernel
theorem dX3_beginLike_95 : decode cX3_beginLike 95 = .ok (.invokevirtual 118, 3) := by decide +kernel
theorem dX3_beginLike_98 : decode cX3_beginLike 98 = .ok (.pop, 1) := by decide +kernel
theorem dX3_beginLike_99 : decode cX3_beginLike 99 = .ok (.iinc 2 1, 3) := by decide +kernel
theorem dX3_beginLike_102 : decode cX3_beginLike 102 = .ok (.goto (-25), 3) := by decide +kernel
theorem dX3_beginLike_105 : decode cX3_beginLike 105 = .ok (.iconst 0, 1) := by decide +kernel
theorem dX3_beginLike_106 : decode cX3_beginLike 106 = .ok (.istore_n 2, 1) := by decide +kernel
theorem dX3_beginLike_107 : decode cX3_beginLike 107 = .ok (.iload_n 2, 1) := by decide +kernel
theorem dX3_beginLike_108 : decode cX3_beginLike 108 = .ok (.aload_n 1, 1) := by decide +kernel
theorem dX3_beginLike_109 : decode cX3_beginLike 109 = .ok (.getfield 94, 3) := by decide +kernel
theorem dX3_beginLike_112 : decode cX3_beginLike 112 = .ok (.if_icmp .ge 23, 3) := by decide +kernel
theorem dX3_beginLike_115 : decode cX3_beginLike 115 = .ok (.aload_n 0, 1) := by decide +kernel
theorem dX3_beginLike_116 : decode cX3_beginLike 116 = .ok (.aload_n 1, 1) := by decide +kernel
theorem dX3_beginLike_117 : decode cX3_beginLike 117 = .ok (.getfield 40, 3) := by decide +kernel
theorem dX3_beginLike_120 : decode cX3_beginLike 120 = .ok (.iload_n 2, 1) := by decide +kernel
theorem dX3_beginLike_121 : decode cX3_beginLike 121 = .ok (.aaload, 1) := by decide +kernel
theorem dX3_beginLike_122 : decode cX3_beginLike 122 = .ok (.getfield 122, 3) := by decide +kernel
theorem dX3_beginLike_125 : decode cX3_beginLike 125 = .ok (.invokevirtual 125, 3) := by decide +kernel
theorem dX3_beginLike_128 : decode cX3_beginLike 128 = .ok (.pop, 1) := by decide +kernel
theorem dX3_beginLike_129 : decode cX3_beginLike 129 = .ok (.iinc 2 1, 3) := by decide +kernel
theorem dX3_beginLike_132 : decode cX3_beginLike 132 = .ok (.goto (-25), 3) := by decide +kernel
theorem dX3_beginLike_135 : decode cX3_beginLike 135 = .ok (.aload_n 0, 1) := by decide +kernel
theorem dX3_beginLike_136 : decode cX3_beginLike 136 = .ok (.getfield 21, 3) := by decide +kernel
theorem dX3_beginLike_139 : decode cX3_beginLike 139 = .ok (.aload_n 1, 1) := by decide +kernel
theorem dX3_beginLike_140 : decode cX3_beginLike 140 = .ok (.getfield 21, 3) := by decide +kernel
theorem dX3_beginLike_143 : decode cX3_beginLike 143 = .ok (.getfield 128, 3) := by decide +kernel
theorem dX3_beginLike_146 : decode cX3_beginLike 146 = .ok (.aload_n 1, 1) := by decide +kernel
theorem dX3_beginLike_147 : decode cX3_beginLike 147 = .ok (.getfield 21, 3) := by decide +kernel
theorem dX3_beginLike_150 : decode cX3_beginLike 150 = .ok (.getfield 131, 3) := by decide +kernel
theorem dX3_beginLike_153 : decode cX3_beginLike 153 = .ok (.invokevirtual 134, 3) := by decide +kernel
theorem dX3_beginLike_156 : decode cX3_beginLike 156 = .ok (.return_, 1) := by decide +kernel
theorem dX3_hasPage_0 : decode cX3_hasPage 0 = .ok (.iload_n 1, 1) := by decide +kernel
theorem dX3_hasPage_1 : decode cX3_hasPage 1 = .ok (.iconst 0, 1) := by decide +kernel
theorem dX3_hasPage_2 : decode cX3_hasPage 2 = .ok (.aload_n 0, 1) := by decide +kernel
theorem dX3_hasPage_3 : decode cX3_hasPage 3 = .ok (.getfield 91, 3) := by decide +kernel
theorem dX3_hasPage_6 : decode cX3_hasPage 6 = .ok (.iconst 1, 1) := by decide +kernel
theorem dX3_hasPage_7 : decode cX3_hasPage 7 = .ok (.isub, 1) := by decide +kernel
theorem dX3_hasPage_8 : decode cX3_hasPage 8 = .ok (.invokestatic 138, 3) := by decide +kernel
theorem dX3_hasPage_11 : decode cX3_hasPage 11 = .ok (.ireturn, 1) := by decide +kernel
theorem dX3_hasWorker_0 : decode cX3_hasWorker 0 = .ok (.iload_n 1, 1) := by decide +kernel
theorem dX3_hasWorker_1 : decode cX3_hasWorker 1 = .ok (.iconst 0, 1) := by decide +kernel
theorem dX3_hasWorker_2 : decode cX3_hasWorker 2 = .ok (.aload_n 0, 1) := by decide +kernel
theorem dX3_hasWorker_3 : decode cX3_hasWorker 3 = .ok (.getfield 94, 3) := by decide +kernel
theorem dX3_hasWorker_6 : decode cX3_hasWorker 6 = .ok (.iconst 1, 1) := by decide +kernel
theorem dX3_hasWorker_7 : decode cX3_hasWorker 7 = .ok (.isub, 1) := by decide +kernel
theorem dX3_hasWorker_8 : decode cX3_hasWorker 8 = .ok (.invokestatic 138, 3) := by decide +kernel
theorem dX3_hasWorker_11 : decode cX3_hasWorker 11 = .ok (.ireturn, 1) := by decide +kernel
theorem dX3_addPage_0 : decode cX3_addPage 0 = .ok (.aload_n 0, 1) := by decide +kernel
theorem dX3_addPage_1 : decode cX3_addPage 1 = .ok (.getfield 91, 3) := by decide +kernel
theorem dX3_addPage_4 : decode cX3_addPage 4 = .ok (.istore_n 2, 1) := by decide +kernel
theorem dX3_addPage_5 : decode cX3_addPage 5 = .ok (.aload_n 0, 1) := by decide +kernel
theorem dX3_addPage_6 : decode cX3_addPage 6 = .ok (.getfield 34, 3) := by decide +kernel
theorem dX3_addPage_9 : decode cX3_addPage 9 = .ok (.iload_n 2, 1) := by decide +kernel
theorem dX3_addPage_10 : decode cX3_addPage 10 = .ok (.aaload, 1) := by decide +kernel
theorem dX3_addPage_11 : decode cX3_addPage 11 = .ok (.iload_n 1, 1) := by decide +kernel
theorem dX3_addPage_12 : decode cX3_addPage 12 = .ok (.invokevirtual 142, 3) := by decide +kernel
theorem dX3_addPage_15 : decode cX3_addPage 15 = .ok (.aload_n 0, 1) := by decide +kernel
theorem dX3_addPage_16 : decode cX3_addPage 16 = .ok (.dup, 1) := by decide +kernel
theorem dX3_addPage_17 : decode cX3_addPage 17 = .ok (.getfield 91, 3) := by decide +kernel
theorem dX3_addPage_20 : decode cX3_addPage 20 = .ok (.iconst 1, 1) := by decide +kernel
theorem dX3_addPage_21 : decode cX3_addPage 21 = .ok (.iadd, 1) := by decide +kernel
theorem dX3_addPage_22 : decode cX3_addPage 22 = .ok (.putfield 91, 3) := by decide +kernel
theorem dX3_addPage_25 : decode cX3_addPage 25 = .ok (.iload_n 2, 1) := by decide +kernel
theorem dX3_addPage_26 : decode cX3_addPage 26 = .ok (.ireturn, 1) := by decide +kernel
theorem dX3_addWorker_0 : decode cX3_addWorker 0 = .ok (.aload_n 0, 1) := by decide +kernel
theorem dX3_addWorker_1 : decode cX3_addWorker 1 = .ok (.getfield 94, 3) := by decide +kernel
theorem dX3_addWorker_4 : decode cX3_addWorker 4 = .ok (.istore_n 2, 1) := by decide +kernel
theorem dX3_addWorker_5 : decode cX3_addWorker 5 = .ok (.aload_n 0, 1) := by decide +kernel
theorem dX3_addWorker_6 : decode cX3_addWorker 6 = .ok (.getfield 40, 3) := by decide +kernel
theorem dX3_addWorker_9 : decode cX3_addWorker 9 = .ok (.iload_n 2, 1) := by decide +kernel
theorem dX3_addWorker_10 : decode cX3_addWorker 10 = .ok (.aaload, 1) := by decide +kernel
theorem dX3_addWorker_11 : decode cX3_addWorker 11 = .ok (.iload_n 1, 1) := by decide +kernel
theorem dX3_addWorker_12 : decode cX3_addWorker 12 = .ok (.invokevirtual 144, 3) := by decide +kernel
theorem dX3_addWorker_15 : decode cX3_addWorker 15 = .ok (.aload_n 0, 1) := by decide +kernel
theorem dX3_addWorker_16 : decode cX3_addWorker 16 = .ok (.getfield 12, 3) := by decide +kernel
theorem dX3_addWorker_19 : decode cX3_addWorker 19 = .ok (.iload_n 1, 1) := by decide +kernel
theorem dX3_addWorker_20 : decode cX3_addWorker 20 = .ok (.iload_n 2, 1) := by decide +kernel
theorem dX3_addWorker_21 : decode cX3_addWorker 21 = .ok (.invokevirtual 145, 3) := by decide +kernel
theorem dX3_addWorker_24 : decode cX3_addWorker 24 = .ok (.aload_n 0, 1) := by decide +kernel
theorem dX3_addWorker_25 : decode cX3_addWorker 25 = .ok (.dup, 1) := by decide +kernel
theorem dX3_addWorker_26 : decode cX3_addWorker 26 = .ok (.getfield 94, 3) := by decide +kernel
theorem dX3_addWorker_29 : decode cX3_addWorker 29 = .ok (.iconst 1, 1) := by decide +kernel
theorem dX3_addWorker_30 : decode cX3_addWorker 30 = .ok (.iadd, 1) := by decide +kernel
theorem dX3_addWorker_31 : decode cX3_addWorker 31 = .ok (.putfield 94, 3) := by decide +kernel
theorem dX3_addWorker_34 : decode cX3_addWorker 34 = .ok (.iload_n 2, 1) := by decide +kernel
theorem dX3_addWorker_35 : decode cX3_addWorker 35 = .ok (.ireturn, 1) := by decide +kernel
theorem dX3_freeProcessors_0 : decode cX3_freeProcessors 0 = .ok (.aload_n 0, 1) := by decide +kernel
theorem dX3_freeProcessors_1 : decode cX3_freeProcessors 1 = .ok (.getfield 55, 3) := by decide +kernel
theorem dX3_freeProcessors_4 : decode cX3_freeProcessors 4 = .ok (.getfield 148, 3) := by decide +kernel
theorem dX3_freeProcessors_7 : decode cX3_freeProcessors 7 = .ok (.istore_n 2, 1) := by decide +kernel
theorem dX3_freeProcessors_8 : decode cX3_freeProcessors 8 = .ok (.iconst 0, 1) := by decide +kernel
theorem dX3_freeProcessors_9 : decode cX3_freeProcessors 9 = .ok (.istore_n 3, 1) := by decide +kernel
theorem dX3_freeProcessors_10 : decode cX3_freeProcessors 10 = .ok (.iload_n 3, 1) := by decide +kernel
theorem dX3_freeProcessors_11 : decode cX3_freeProcessors 11 = .ok (.aload_n 0, 1) := by decide +kernel
theorem dX3_freeProcessors_12 : decode cX3_freeProcessors 12 = .ok (.getfield 94, 3) := by decide +kernel
theorem dX3_freeProcessors_15 : decode cX3_freeProcessors 15 = .ok (.if_icmp .ge 37, 3) := by decide +kernel
theorem dX3_freeProcessors_18 : decode cX3_freeProcessors 18 = .ok (.aload_n 0, 1) := by decide +kernel
theorem dX3_freeProcessors_19 : decode cX3_freeProcessors 19 = .ok (.getfield 40, 3) := by decide +kernel
theorem dX3_freeProcessors_22 : decode cX3_freeProcessors 22 = .ok (.iload_n 3, 1) := by decide +kernel
theorem dX3_freeProcessors_23 : decode cX3_freeProcessors 23 = .ok (.aaload, 1) := by decide +kernel
theorem dX3_freeProcessors_24 : decode cX3_freeProcessors 24 = .ok (.getfield 122, 3) := by decide +kernel
theorem dX3_freeProcessors_27 : decode cX3_freeProcessors 27 = .ok (.iload_n 1, 1) := by decide +kernel
theorem dX3_freeProcessors_28 : decode cX3_freeProcessors 28 = .ok (.if_icmp .ne 18, 3) := by decide +kernel
theorem dX3_freeProcessors_31 : decode cX3_freeProcessors 31 = .ok (.aload_n 0, 1) := by decide +kernel
theorem dX3_freeProcessors_32 : decode cX3_freeProcessors 32 = .ok (.getfield 40, 3) := by decide +kernel
theorem dX3_freeProcessors_35 : decode cX3_freeProcessors 35 = .ok (.iload_n 3, 1) := by decide +kernel
theorem dX3_freeProcessors_36 : decode cX3_freeProcessors 36 = .ok (.aaload, 1) := by decide +kernel
theorem dX3_freeProcessors_37 : decode cX3_freeProcessors 37 = .ok (.getfield 153, 3) := by decide +kernel
theorem dX3_freeProcessors_40 : decode cX3_freeProcessors 40 = .ok (.ifCond .le 6, 3) := by decide +kernel
theorem dX3_freeProcessors_43 : decode cX3_freeProcessors 43 = .ok (.iinc 2 (-1), 3) := by decide +kernel
theorem dX3_freeProcessors_46 : decode cX3_freeProcessors 46 = .ok (.iinc 3 1, 3) := by decide +kernel
theorem dX3_freeProcessors_49 : decode cX3_freeProcessors 49 = .ok (.goto (-39), 3) := by decide +kernel
theorem dX3_freeProcessors_52 : decode cX3_freeProcessors 52 = .ok (.iload_n 2, 1) := by decide +kernel
theorem dX3_freeProcessors_53 : decode cX3_freeProcessors 53 = .ok (.ireturn, 1) := by decide +kernel
theorem dX3_hasRoom_0 : decode cX3_hasRoom 0 = .ok (.aload_n 0, 1) := by decide +kernel
theorem dX3_hasRoom_1 : decode cX3_hasRoom 1 = .ok (.getfield 44, 3) := by decide +kernel
theorem dX3_hasRoom_4 : decode cX3_hasRoom 4 = .ok (.iload_n 1, 1) := by decide +kernel
theorem dX3_hasRoom_5 : decode cX3_hasRoom 5 = .ok (.iaload, 1) := by decide +kernel
theorem dX3_hasRoom_6 : decode cX3_hasRoom 6 = .ok (.aload_n 0, 1) := by decide +kernel
theorem dX3_hasRoom_7 : decode cX3_hasRoom 7 = .ok (.getfield 55, 3) := by decide +kernel
theorem dX3_hasRoom_10 : decode cX3_hasRoom 10 = .ok (.getfield 156, 3) := by decide +kernel
theorem dX3_hasRoom_13 : decode cX3_hasRoom 13 = .ok (.if_icmp .ge 7, 3) := by decide +kernel
theorem dX3_hasRoom_16 : decode cX3_hasRoom 16 = .ok (.iconst 1, 1) := by decide +kernel
theorem dX3_hasRoom_17 : decode cX3_hasRoom 17 = .ok (.goto 4, 3) := by decide +kernel
theorem dX3_hasRoom_20 : decode cX3_hasRoom 20 = .ok (.iconst 0, 1) := by decide +kernel
theorem dX3_hasRoom_21 : decode cX3_hasRoom 21 = .ok (.ireturn, 1) := by decide +kernel
theorem dX3_fits_0 : decode cX3_fits 0 = .ok (.aload_n 1, 1) := by decide +kernel
theorem dX3_fits_1 : decode cX3_fits 1 = .ok (.getfield 115, 3) := by decide +kernel
theorem dX3_fits_4 : decode cX3_fits 4 = .ok (.iconst 2, 1) := by decide +kernel
theorem dX3_fits_5 : decode cX3_fits 5 = .ok (.if_icmp .ne 10, 3) := by decide +kernel
theorem dX3_fits_8 : decode cX3_fits 8 = .ok (.aload_n 0, 1) := by decide +kernel
theorem dX3_fits_9 : decode cX3_fits 9 = .ok (.invokevirtual 159, 3) := by decide +kernel
theorem dX3_fits_12 : decode cX3_fits 12 = .ok (.goto 8, 3) := by decide +kernel
theorem dX3_fits_15 : decode cX3_fits 15 = .ok (.aload_n 0, 1) := by decide +kernel
theorem dX3_fits_16 : decode cX3_fits 16 = .ok (.iload_n 2, 1) := by decide +kernel
theorem dX3_fits_17 : decode cX3_fits 17 = .ok (.invokevirtual 163, 3) := by decide +kernel
theorem dX3_fits_20 : decode cX3_fits 20 = .ok (.ireturn, 1) := by decide +kernel
theorem dX3_allHaveRoom_0 : decode cX3_allHaveRoom 0 = .ok (.iconst 0, 1) := by decide +kernel
theorem dX3_allHaveRoom_1 : decode cX3_allHaveRoom 1 = .ok (.istore_n 1, 1) := by decide +kernel
theorem dX3_allHaveRoom_2 : decode cX3_allHaveRoom 2 = .ok (.iload_n 1, 1) := by decide +kernel
theorem dX3_allHaveRoom_3 : decode cX3_allHaveRoom 3 = .ok (.aload_n 0, 1) := by decide +kernel
theorem dX3_allHaveRoom_4 : decode cX3_allHaveRoom 4 = .ok (.getfield 55, 3) := by decide +kernel
theorem dX3_allHaveRoom_7 : decode cX3_allHaveRoom 7 = .ok (.getfield 167, 3) := by decide +kernel
theorem dX3_allHaveRoom_10 : decode cX3_allHaveRoom 10 = .ok (.if_icmp .ge 27, 3) := by decide +kernel
theorem dX3_allHaveRoom_13 : decode cX3_allHaveRoom 13 = .ok (.aload_n 0, 1) := by decide +kernel
theorem dX3_allHaveRoom_14 : decode cX3_allHaveRoom 14 = .ok (.getfield 44, 3) := by decide +kernel
theorem dX3_allHaveRoom_17 : decode cX3_allHaveRoom 17 = .ok (.iload_n 1, 1) := by decide +kernel
theorem dX3_allHaveRoom_18 : decode cX3_allHaveRoom 18 = .ok (.iaload, 1) := by decide +kernel
theorem dX3_allHaveRoom_19 : decode cX3_allHaveRoom 19 = .ok (.aload_n 0, 1) := by decide +kernel
theorem dX3_allHaveRoom_20 : decode cX3_allHaveRoom 20 = .ok (.getfield 55, 3) := by decide +kernel
theorem dX3_allHaveRoom_23 : decode cX3_allHaveRoom 23 = .ok (.getfield 156, 3) := by decide +kernel
theorem dX3_allHaveRoom_26 : decode cX3_allHaveRoom 26 = .ok (.if_icmp .lt 5, 3) := by decide +kernel
theorem dX3_allHaveRoom_29 : decode cX3_allHaveRoom 29 = .ok (.iconst 0, 1) := by decide +kernel
theorem dX3_allHaveRoom_30 : decode cX3_allHaveRoom 30 = .ok (.ireturn, 1) := by decide +kernel
theorem dX3_allHaveRoom_31 : decode cX3_allHaveRoom 31 = .ok (.iinc 1 1, 3) := by decide +kernel
theorem dX3_allHaveRoom_34 : decode cX3_allHaveRoom 34 = .ok (.goto (-32), 3) := by decide +kernel
theorem dX3_allHaveRoom_37 : decode cX3_allHaveRoom 37 = .ok (.iconst 1, 1) := by decide +kernel
theorem dX3_allHaveRoom_38 : decode cX3_allHaveRoom 38 = .ok (.ireturn, 1) := by decide +kernel
theorem dX3_lay_0 : decode cX3_lay 0 = .ok (.aload_n 1, 1) := by decide +kernel
theorem dX3_lay_1 : decode cX3_lay 1 = .ok (.iload_n 2, 1) := by decide +kernel
theorem dX3_lay_2 : decode cX3_lay 2 = .ok (.putfield 170, 3) := by decide +kernel
theorem dX3_lay_5 : decode cX3_lay 5 = .ok (.aload_n 1, 1) := by decide +kernel
theorem dX3_lay_6 : decode cX3_lay 6 = .ok (.getfield 115, 3) := by decide +kernel
theorem dX3_lay_9 : decode cX3_lay 9 = .ok (.iconst 2, 1) := by decide +kernel
theorem dX3_lay_10 : decode cX3_lay 10 = .ok (.if_icmp .eq 14, 3) := by decide +kernel
theorem dX3_lay_13 : decode cX3_lay 13 = .ok (.aload_n 0, 1) := by decide +kernel
theorem dX3_lay_14 : decode cX3_lay 14 = .ok (.getfield 44, 3) := by decide +kernel
theorem dX3_lay_17 : decode cX3_lay 17 = .ok (.iload_n 2, 1) := by decide +kernel
theorem dX3_lay_18 : decode cX3_lay 18 = .ok (.dup2, 1) := by decide +kernel
theorem dX3_lay_19 : decode cX3_lay 19 = .ok (.iaload, 1) := by decide +kernel
theorem dX3_lay_20 : decode cX3_lay 20 = .ok (.iconst 1, 1) := by decide +kernel
theorem dX3_lay_21 : decode cX3_lay 21 = .ok (.iadd, 1) := by decide +kernel
theorem dX3_lay_22 : decode cX3_lay 22 = .ok (.iastore, 1) := by decide +kernel
theorem dX3_lay_23 : decode cX3_lay 23 = .ok (.return_, 1) := by decide +kernel
theorem dX3_lay_24 : decode cX3_lay 24 = .ok (.iconst 0, 1) := by decide +kernel
theorem dX3_lay_25 : decode cX3_lay 25 = .ok (.istore_n 3, 1) := by decide +kernel
theorem dX3_lay_26 : decode cX3_lay 26 = .ok (.iload_n 3, 1) := by decide +kernel
theorem dX3_lay_27 : decode cX3_lay 27 = .ok (.aload_n 0, 1) := by decide +kernel
theorem dX3_lay_28 : decode cX3_lay 28 = .ok (.getfield 55, 3) := by decide +kernel
theorem dX3_lay_31 : decode cX3_lay 31 = .ok (.getfield 167, 3) := by decide +kernel
theorem dX3_lay_34 : decode cX3_lay 34 = .ok (.if_icmp .ge 19, 3) := by decide +kernel
theorem dX3_lay_37 : decode cX3_lay 37 = .ok (.aload_n 0, 1) := by decide +kernel
theorem dX3_lay_38 : decode cX3_lay 38 = .ok (.getfield 44, 3) := by decide +kernel
theorem dX3_lay_41 : decode cX3_lay 41 = .ok (.iload_n 3, 1) := by decide +kernel
theorem dX3_lay_42 : decode cX3_lay 42 = .ok (.dup2, 1) := by decide +kernel
theorem dX3_lay_43 : decode cX3_lay 43 = .ok (.iaload, 1) := by decide +kernel
theorem dX3_lay_44 : decode cX3_lay 44 = .ok (.iconst 1, 1) := by decide +kernel
theorem dX3_lay_45 : decode cX3_lay 45 = .ok (.iadd, 1) := by decide +kernel
theorem dX3_lay_46 : decode cX3_lay 46 = .ok (.iastore, 1) := by decide +kernel
theorem dX3_lay_47 : decode cX3_lay 47 = .ok (.iinc 3 1, 3) := by decide +kernel
theorem dX3_lay_50 : decode cX3_lay 50 = .ok (.goto (-24), 3) := by decide +kernel
theorem dX3_lay_53 : decode cX3_lay 53 = .ok (.return_, 1) := by decide +kernel
theorem dX3_doTick_0 : decode cX3_doTick 0 = .ok (.aload_n 0, 1) := by decide +kernel
theorem dX3_doTick_1 : decode cX3_doTick 1 = .ok (.getfield 64, 3) := by decide +kernel
theorem dX3_doTick_4 : decode cX3_doTick 4 = .ok (.invokevirtual 173, 3) := by decide +kernel
theorem dX3_doTick_7 : decode cX3_doTick 7 = .ok (.iconst 0, 1) := by decide +kernel
theorem dX3_doTick_8 : decode cX3_doTick 8 = .ok (.istore_n 1, 1) := by decide +kernel
theorem dX3_doTick_9 : decode cX3_doTick 9 = .ok (.iload_n 1, 1) := by decide +kernel
theorem dX3_doTick_10 : decode cX3_doTick 10 = .ok (.aload_n 0, 1) := by decide +kernel
theorem dX3_doTick_11 : decode cX3_doTick 11 = .ok (.getfield 55, 3) := by decide +kernel
theorem dX3_doTick_14 : decode cX3_doTick 14 = .ok (.getfield 167, 3) := by decide +kernel
theorem dX3_doTick_17 : decode cX3_doTick 17 = .ok (.if_icmp .ge 14, 3) := by decide +kernel
theorem dX3_doTick_20 : decode cX3_doTick 20 = .ok (.aload_n 0, 1) := by decide +kernel
theorem dX3_doTick_21 : decode cX3_doTick 21 = .ok (.iload_n 1, 1) := by decide +kernel
theorem dX3_doTick_22 : decode cX3_doTick 22 = .ok (.invokevirtual 176, 3) := by decide +kernel
theorem dX3_doTick_25 : decode cX3_doTick 25 = .ok (.iinc 1 1, 3) := by decide +kernel
theorem dX3_doTick_28 : decode cX3_doTick 28 = .ok (.goto (-19), 3) := by decide +kernel
theorem dX3_doTick_31 : decode cX3_doTick 31 = .ok (.aload_n 0, 1) := by decide +kernel
theorem dX3_doTick_32 : decode cX3_doTick 32 = .ok (.invokevirtual 179, 3) := by decide +kernel
theorem dX3_doTick_35 : decode cX3_doTick 35 = .ok (.aload_n 0, 1) := by decide +kernel
theorem dX3_doTick_36 : decode cX3_doTick 36 = .ok (.getfield 21, 3) := by decide +kernel
theorem dX3_doTick_39 : decode cX3_doTick 39 = .ok (.getfield 182, 3) := by decide +kernel
theorem dX3_doTick_42 : decode cX3_doTick 42 = .ok (.ifCond .le 22, 3) := by decide +kernel
theorem dX3_doTick_45 : decode cX3_doTick 45 = .ok (.aload_n 0, 1) := by decide +kernel
theorem dX3_doTick_46 : decode cX3_doTick 46 = .ok (.getfield 51, 3) := by decide +kernel
theorem dX3_doTick_49 : decode cX3_doTick 49 = .ok (.aload_n 0, 1) := by decide +kernel
theorem dX3_doTick_50 : decode cX3_doTick 50 = .ok (.getfield 21, 3) := by decide +kernel
theorem dX3_doTick_53 : decode cX3_doTick 53 = .ok (.getfield 182, 3) := by decide +kernel
theorem dX3_doTick_56 : decode cX3_doTick 56 = .ok (.irem, 1) := by decide +kernel
theorem dX3_doTick_57 : decode cX3_doTick 57 = .ok (.ifCond .ne 7, 3) := by decide +kernel
theorem dX3_doTick_60 : decode cX3_doTick 60 = .ok (.aload_n 0, 1) := by decide +kernel
theorem dX3_doTick_61 : decode cX3_doTick 61 = .ok (.invokevirtual 185, 3) := by decide +kernel
theorem dX3_doTick_64 : decode cX3_doTick 64 = .ok (.aload_n 0, 1) := by decide +kernel
theorem dX3_doTick_65 : decode cX3_doTick 65 = .ok (.dup, 1) := by decide +kernel
theorem dX3_doTick_66 : decode cX3_doTick 66 = .ok (.getfield 51, 3) := by decide +kernel
theorem dX3_doTick_69 : decode cX3_doTick 69 = .ok (.iconst 1, 1) := by decide +kernel
theorem dX3_doTick_70 : decode cX3_doTick 70 = .ok (.iadd, 1) := by decide +kernel
theorem dX3_doTick_71 : decode cX3_doTick 71 = .ok (.putfield 51, 3) := by decide +kernel
theorem dX3_doTick_74 : decode cX3_doTick 74 = .ok (.return_, 1) := by decide +kernel
theorem dX3_serve_0 : decode cX3_serve 0 = .ok (.aload_n 0, 1) := by decide +kernel
theorem dX3_serve_1 : decode cX3_serve 1 = .ok (.iload_n 1, 1) := by decide +kernel
theorem dX3_serve_2 : decode cX3_serve 2 = .ok (.invokevirtual 188, 3) := by decide +kernel
theorem dX3_serve_5 : decode cX3_serve 5 = .ok (.istore_n 2, 1) := by decide +kernel
theorem dX3_serve_6 : decode cX3_serve 6 = .ok (.iconst 0, 1) := by decide +kernel
theorem dX3_serve_7 : decode cX3_serve 7 = .ok (.istore_n 3, 1) := by decide +kernel
theorem dX3_serve_8 : decode cX3_serve 8 = .ok (.iload_n 3, 1) := by decide +kernel
theorem dX3_serve_9 : decode cX3_serve 9 = .ok (.aload_n 0, 1) := by decide +kernel
theorem dX3_serve_10 : decode cX3_serve 10 = .ok (.getfield 12, 3) := by decide +kernel
theorem dX3_serve_13 : decode cX3_serve 13 = .ok (.getfield 191, 3) := by decide +kernel
theorem dX3_serve_16 : decode cX3_serve 16 = .ok (.iload_n 1, 1) := by decide +kernel
theorem dX3_serve_17 : decode cX3_serve 17 = .ok (.iaload, 1) := by decide +kernel
theorem dX3_serve_18 : decode cX3_serve 18 = .ok (.if_icmp .ge 49, 3) := by decide +kernel
theorem dX3_serve_21 : decode cX3_serve 21 = .ok (.iload_n 2, 1) := by decide +kernel
theorem dX3_serve_22 : decode cX3_serve 22 = .ok (.ifCond .le 45, 3) := by decide +kernel
theorem dX3_serve_25 : decode cX3_serve 25 = .ok (.aload_n 0, 1) := by decide +kernel
theorem dX3_serve_26 : decode cX3_serve 26 = .ok (.getfield 12, 3) := by decide +kernel
theorem dX3_serve_29 : decode cX3_serve 29 = .ok (.iload_n 1, 1) := by decide +kernel
theorem dX3_serve_30 : decode cX3_serve 30 = .ok (.iload_n 3, 1) := by decide +kernel
theorem dX3_serve_31 : decode cX3_serve 31 = .ok (.invokevirtual 194, 3) := by decide +kernel
theorem dX3_serve_34 : decode cX3_serve 34 = .ok (.istore 4, 2) := by decide +kernel
theorem dX3_serve_36 : decode cX3_serve 36 = .ok (.aload_n 0, 1) := by decide +kernel
theorem dX3_serve_37 : decode cX3_serve 37 = .ok (.getfield 40, 3) := by decide +kernel
theorem dX3_serve_40 : decode cX3_serve 40 = .ok (.iload 4, 2) := by decide +kernel
theorem dX3_serve_42 : decode cX3_serve 42 = .ok (.aaload, 1) := by decide +kernel
theorem dX3_serve_43 : decode cX3_serve 43 = .ok (.invokevirtual 198, 3) := by decide +kernel
theorem dX3_serve_46 : decode cX3_serve 46 = .ok (.ifCond .eq 15, 3) := by decide +kernel
theorem dX3_serve_49 : decode cX3_serve 49 = .ok (.aload_n 0, 1) := by decide +kernel
theorem dX3_serve_50 : decode cX3_serve 50 = .ok (.iload 4, 2) := by decide +kernel
theorem dX3_serve_52 : decode cX3_serve 52 = .ok (.invokevirtual 201, 3) := by decide +kernel
theorem dX3_serve_55 : decode cX3_serve 55 = .ok (.ifCond .eq 6, 3) := by decide +kernel
theorem dX3_serve_58 : decode cX3_serve 58 = .ok (.iinc 2 (-1), 3) := by decide +kernel
theorem dX3_serve_61 : decode cX3_serve 61 = .ok (.iinc 3 1, 3) := by decide +kernel
theorem dX3_serve_64 : decode cX3_serve 64 = .ok (.goto (-56), 3) := by decide +kernel
theorem dX3_serve_67 : decode cX3_serve 67 = .ok (.return_, 1) := by decide +kernel
theorem dX3_finishAccesses_0 : decode cX3_finishAccesses 0 = .ok (.iconst 0, 1) := by decide +kernel
theorem dX3_finishAccesses_1 : decode cX3_finishAccesses 1 = .ok (.istore_n 1, 1) := by decide +kernel
theorem dX3_finishAccesses_2 : decode cX3_finishAccesses 2 = .ok (.iload_n 1, 1) := by decide +kernel
theorem dX3_finishAccesses_3 : decode cX3_finishAccesses 3 = .ok (.aload_n 0, 1) := by decide +kernel
theorem dX3_finishAccesses_4 : decode cX3_finishAccesses 4 = .ok (.getfield 94, 3) := by decide +kernel
theorem dX3_finishAccesses_7 : decode cX3_finishAccesses 7 = .ok (.if_icmp .ge 64, 3) := by decide +kernel
theorem dX3_finishAccesses_10 : decode cX3_finishAccesses 10 = .ok (.aload_n 0, 1) := by decide +kernel
theorem dX3_finishAccesses_11 : decode cX3_finishAccesses 11 = .ok (.getfield 40, 3) := by decide +kernel
theorem dX3_finishAccesses_14 : decode cX3_finishAccesses 14 = .ok (.iload_n 1, 1) := by decide +kernel
theorem dX3_finishAccesses_15 : decode cX3_finishAccesses 15 = .ok (.aaload, 1) := by decide +kernel
theorem dX3_finishAccesses_16 : decode cX3_finishAccesses 16 = .ok (.astore_n 2, 1) := by decide +kernel
theorem dX3_finishAccesses_17 : decode cX3_finishAccesses 17 = .ok (.aload_n 2, 1) := by decide +kernel
theorem dX3_finishAccesses_18 : decode cX3_finishAccesses 18 = .ok (.getfield 153, 3) := by decide +kernel
theorem dX3_finishAccesses_21 : decode cX3_finishAccesses 21 = .ok (.ifCond .le 44, 3) := by decide +kernel
theorem dX3_finishAccesses_24 : decode cX3_finishAccesses 24 = .ok (.aload_n 2, 1) := by decide +kernel
theorem dX3_finishAccesses_25 : decode cX3_finishAccesses 25 = .ok (.dup, 1) := by decide +kernel
theorem dX3_finishAccesses_26 : decode cX3_finishAccesses 26 = .ok (.getfield 153, 3) := by decide +kernel
theorem dX3_finishAccesses_29 : decode cX3_finishAccesses 29 = .ok (.iconst 1, 1) := by decide +kernel
theorem dX3_finishAccesses_30 : decode cX3_finishAccesses 30 = .ok (.isub, 1) := by decide +kernel
theorem dX3_finishAccesses_31 : decode cX3_finishAccesses 31 = .ok (.putfield 153, 3) := by decide +kernel
theorem dX3_finishAccesses_34 : decode cX3_finishAccesses 34 = .ok (.aload_n 2, 1) := by decide +kernel
theorem dX3_finishAccesses_35 : decode cX3_finishAccesses 35 = .ok (.getfield 153, 3) := by decide +kernel
theorem dX3_finishAccesses_38 : decode cX3_finishAccesses 38 = .ok (.ifCond .ne 27, 3) := by decide +kernel
theorem dX3_finishAccesses_41 : decode cX3_finishAccesses 41 = .ok (.aload_n 0, 1) := by decide +kernel
theorem dX3_finishAccesses_42 : decode cX3_finishAccesses 42 = .ok (.getfield 12, 3) := by decide +kernel
theorem dX3_finishAccesses_45 : decode cX3_finishAccesses 45 = .ok (.aload_n 2, 1) := by decide +kernel
theorem dX3_finishAccesses_46 : decode cX3_finishAccesses 46 = .ok (.getfield 122, 3) := by decide +kernel
theorem dX3_finishAccesses_49 : decode cX3_finishAccesses 49 = .ok (.iload_n 1, 1) := by decide +kernel
theorem dX3_finishAccesses_50 : decode cX3_finishAccesses 50 = .ok (.invokevirtual 204, 3) := by decide +kernel
theorem dX3_finishAccesses_53 : decode cX3_finishAccesses 53 = .ok (.aload_n 0, 1) := by decide +kernel
theorem dX3_finishAccesses_54 : decode cX3_finishAccesses 54 = .ok (.getfield 12, 3) := by decide +kernel
theorem dX3_finishAccesses_57 : decode cX3_finishAccesses 57 = .ok (.aload_n 2, 1) := by decide +kernel
theorem dX3_finishAccesses_58 : decode cX3_finishAccesses 58 = .ok (.getfield 122, 3) := by decide +kernel
theorem dX3_finishAccesses_61 : decode cX3_finishAccesses 61 = .ok (.iload_n 1, 1) := by decide +kernel
theorem dX3_finishAccesses_62 : decode cX3_finishAccesses 62 = .ok (.invokevirtual 145, 3) := by decide +kernel
theorem dX3_finishAccesses_65 : decode cX3_finishAccesses 65 = .ok (.iinc 1 1, 3) := by decide +kernel
theorem dX3_finishAccesses_68 : decode cX3_finishAccesses 68 = .ok (.goto (-66), 3) := by decide +kernel
theorem dX3_finishAccesses_71 : decode cX3_finishAccesses 71 = .ok (.return_, 1) := by decide +kernel
theorem dX3_hidePages_0 : decode cX3_hidePages 0 = .ok (.iconst 0, 1) := by decide +kernel
theorem dX3_hidePages_1 : decode cX3_hidePages 1 = .ok (.istore_n 1, 1) := by decide +kernel
theorem dX3_hidePages_2 : decode cX3_hidePages 2 = .ok (.iload_n 1, 1) := by decide +kernel
theorem dX3_hidePages_3 : decode cX3_hidePages 3 = .ok (.aload_n 0, 1) := by decide +kernel
theorem dX3_hidePages_4 : decode cX3_hidePages 4 = .ok (.getfield 91, 3) := by decide +kernel
theorem dX3_hidePages_7 : decode cX3_hidePages 7 = .ok (.if_icmp .ge 32, 3) := by decide +kernel
theorem dX3_hidePages_10 : decode cX3_hidePages 10 = .ok (.aload_n 0, 1) := by decide +kernel
theorem dX3_hidePages_11 : decode cX3_hidePages 11 = .ok (.getfield 34, 3) := by decide +kernel
theorem dX3_hidePages_14 : decode cX3_hidePages 14 = .ok (.iload_n 1, 1) := by decide +kernel
theorem dX3_hidePages_15 : decode cX3_hidePages 15 = .ok (.aaload, 1) := by decide +kernel
theorem dX3_hidePages_16 : decode cX3_hidePages 16 = .ok (.getfield 170, 3) := by decide +kernel
theorem dX3_hidePages_19 : decode cX3_hidePages 19 = .ok (.iconst (-1), 1) := by decide +kernel
theorem dX3_hidePages_20 : decode cX3_hidePages 20 = .ok (.if_icmp .eq 13, 3) := by decide +kernel
theorem dX3_hidePages_23 : decode cX3_hidePages 23 = .ok (.aload_n 0, 1) := by decide +kernel
theorem dX3_hidePages_24 : decode cX3_hidePages 24 = .ok (.getfield 34, 3) := by decide +kernel
theorem dX3_hidePages_27 : decode cX3_hidePages 27 = .ok (.iload_n 1, 1) := by decide +kernel
theorem dX3_hidePages_28 : decode cX3_hidePages 28 = .ok (.aaload, 1) := by decide +kernel
theorem dX3_hidePages_29 : decode cX3_hidePages 29 = .ok (.iconst 1, 1) := by decide +kernel
theorem dX3_hidePages_30 : decode cX3_hidePages 30 = .ok (.putfield 207, 3) := by decide +kernel
theorem dX3_hidePages_33 : decode cX3_hidePages 33 = .ok (.iinc 1 1, 3) := by decide +kernel
theorem dX3_hidePages_36 : decode cX3_hidePages 36 = .ok (.goto (-34), 3) := by decide +kernel
theorem dX3_hidePages_39 : decode cX3_hidePages 39 = .ok (.return_, 1) := by decide +kernel
theorem dX3_goes_0 : decode cX3_goes 0 = .ok (.aload_n 0, 1) := by decide +kernel
theorem dX3_goes_1 : decode cX3_goes 1 = .ok (.getfield 40, 3) := by decide +kernel
theorem dX3_goes_4 : decode cX3_goes 4 = .ok (.iload_n 1, 1) := by decide +kernel
theorem dX3_goes_5 : decode cX3_goes 5 = .ok (.aaload, 1) := by decide +kernel
theorem dX3_goes_6 : decode cX3_goes 6 = .ok (.astore_n 2, 1) := by decide +kernel
theorem dX3_goes_7 : decode cX3_goes 7 = .ok (.aload_n 0, 1) := by decide +kernel
theorem dX3_goes_8 : decode cX3_goes 8 = .ok (.getfield 28, 3) := by decide +kernel
theorem dX3_goes_11 : decode cX3_goes 11 = .ok (.iload_n 1, 1) := by decide +kernel
theorem dX3_goes_12 : decode cX3_goes 12 = .ok (.aload_n 2, 1) := by decide +kernel
theorem dX3_goes_13 : decode cX3_goes 13 = .ok (.invokevirtual 211, 3) := by decide +kernel
theorem dX3_goes_16 : decode cX3_goes 16 = .ok (.aload_n 0, 1) := by decide +kernel
theorem dX3_goes_17 : decode cX3_goes 17 = .ok (.invokevirtual 214, 3) := by decide +kernel
theorem dX3_goes_20 : decode cX3_goes 20 = .ok (.ifCond .ne 20, 3) := by decide +kernel
theorem dX3_goes_23 : decode cX3_goes 23 = .ok (.aload_n 2, 1) := by decide +kernel
theorem dX3_goes_24 : decode cX3_goes 24 = .ok (.iconst 1, 1) := by decide +kernel
theorem dX3_goes_25 : decode cX3_goes 25 = .ok (.putfield 217, 3) := by decide +kernel
theorem dX3_goes_28 : decode cX3_goes 28 = .ok (.aload_n 0, 1) := by decide +kernel
theorem dX3_goes_29 : decode cX3_goes 29 = .ok (.dup, 1) := by decide +kernel
theorem dX3_goes_30 : decode cX3_goes 30 = .ok (.getfield 112, 3) := by decide +kernel
theorem dX3_goes_33 : decode cX3_goes 33 = .ok (.iconst 1, 1) := by decide +kernel
theorem dX3_goes_34 : decode cX3_goes 34 = .ok (.iadd, 1) := by decide +kernel
theorem dX3_goes_35 : decode cX3_goes 35 = .ok (.putfield 112, 3) := by decide +kernel
theorem dX3_goes_38 : decode cX3_goes 38 = .ok (.iconst 0, 1) := by decide +kernel
theorem dX3_goes_39 : decode cX3_goes 39 = .ok (.ireturn, 1) := by decide +kernel
theorem dX3_goes_40 : decode cX3_goes 40 = .ok (.aload_n 0, 1) := by decide +kernel
theorem dX3_goes_41 : decode cX3_goes 41 = .ok (.getfield 64, 3) := by decide +kernel
theorem dX3_goes_44 : decode cX3_goes 44 = .ok (.aload_n 0, 1) := by decide +kernel
theorem dX3_goes_45 : decode cX3_goes 45 = .ok (.getfield 28, 3) := by decide +kernel
theorem dX3_goes_48 : decode cX3_goes 48 = .ok (.getfield 220, 3) := by decide +kernel
theorem dX3_goes_51 : decode cX3_goes 51 = .ok (.aload_n 0, 1) := by decide +kernel
theorem dX3_goes_52 : decode cX3_goes 52 = .ok (.getfield 28, 3) := by decide +kernel
theorem dX3_goes_55 : decode cX3_goes 55 = .ok (.getfield 221, 3) := by decide +kernel
theorem dX3_goes_58 : decode cX3_goes 58 = .ok (.invokevirtual 224, 3) := by decide +kernel
theorem dX3_goes_61 : decode cX3_goes 61 = .ok (.ifCond .eq 15, 3) := by decide +kernel
theorem dX3_goes_64 : decode cX3_goes 64 = .ok (.aload_n 2, 1) := by decide +kernel
theorem dX3_goes_65 : decode cX3_goes 65 = .ok (.dup, 1) := by decide +kernel
theorem dX3_goes_66 : decode cX3_goes 66 = .ok (.getfield 228, 3) := by decide +kernel
theorem dX3_goes_69 : decode cX3_goes 69 = .ok (.iconst 1, 1) := by decide +kernel
theorem dX3_goes_70 : decode cX3_goes 70 = .ok (.iadd, 1) := by decide +kernel
theorem dX3_goes_71 : decode cX3_goes 71 = .ok (.putfield 228, 3) := by decide +kernel
theorem dX3_goes_74 : decode cX3_goes 74 = .ok (.iconst 0, 1) := by decide +kernel
theorem dX3_goes_75 : decode cX3_goes 75 = .ok (.ireturn, 1) := by decide +kernel
theorem dX3_goes_76 : decode cX3_goes 76 = .ok (.aload_n 0, 1) := by decide +kernel
theorem dX3_goes_77 : decode cX3_goes 77 = .ok (.getfield 34, 3) := by decide +kernel
theorem dX3_goes_80 : decode cX3_goes 80 = .ok (.aload_n 0, 1) := by decide +kernel
theorem dX3_goes_81 : decode cX3_goes 81 = .ok (.getfield 28, 3) := by decide +kernel
theorem dX3_goes_84 : decode cX3_goes 84 = .ok (.getfield 231, 3) := by decide +kernel
theorem dX3_goes_87 : decode cX3_goes 87 = .ok (.aaload, 1) := by decide +kernel
theorem dX3_goes_88 : decode cX3_goes 88 = .ok (.astore_n 3, 1) := by decide +kernel
theorem dX3_goes_89 : decode cX3_goes 89 = .ok (.aload_n 0, 1) := by decide +kernel
theorem dX3_goes_90 : decode cX3_goes 90 = .ok (.getfield 64, 3) := by decide +kernel
theorem dX3_goes_93 : decode cX3_goes 93 = .ok (.aload_n 0, 1) := by decide +kernel
theorem dX3_goes_94 : decode cX3_goes 94 = .ok (.getfield 28, 3) := by decide +kernel
theorem dX3_goes_97 : decode cX3_goes 97 = .ok (.getfield 220, 3) := by decide +kernel
theorem dX3_goes_100 : decode cX3_goes 100 = .ok (.aload_n 0, 1) := by decide +kernel
theorem dX3_goes_101 : decode cX3_goes 101 = .ok (.getfield 28, 3) := by decide +kernel
theorem dX3_goes_104 : decode cX3_goes 104 = .ok (.getfield 221, 3) := by decide +kernel
theorem dX3_goes_107 : decode cX3_goes 107 = .ok (.invokevirtual 234, 3) := by decide +kernel
theorem dX3_goes_110 : decode cX3_goes 110 = .ok (.aload_n 0, 1) := by decide +kernel
theorem dX3_goes_111 : decode cX3_goes 111 = .ok (.getfield 28, 3) := by decide +kernel
theorem dX3_goes_114 : decode cX3_goes 114 = .ok (.iconst 1, 1) := by decide +kernel
theorem dX3_goes_115 : decode cX3_goes 115 = .ok (.iconst 2, 1) := by decide +kernel
theorem dX3_goes_116 : decode cX3_goes 116 = .ok (.aload_n 0, 1) := by decide +kernel
theorem dX3_goes_117 : decode cX3_goes 117 = .ok (.getfield 55, 3) := by decide +kernel
theorem dX3_goes_120 : decode cX3_goes 120 = .ok (.aload_n 0, 1) := by decide +kernel
theorem dX3_goes_121 : decode cX3_goes 121 = .ok (.getfield 28, 3) := by decide +kernel
theorem dX3_goes_124 : decode cX3_goes 124 = .ok (.getfield 220, 3) := by decide +kernel
theorem dX3_goes_127 : decode cX3_goes 127 = .ok (.aload_n 0, 1) := by decide +kernel
theorem dX3_goes_128 : decode cX3_goes 128 = .ok (.getfield 28, 3) := by decide +kernel
theorem dX3_goes_131 : decode cX3_goes 131 = .ok (.getfield 221, 3) := by decide +kernel
theorem dX3_goes_134 : decode cX3_goes 134 = .ok (.invokevirtual 237, 3) := by decide +kernel
theorem dX3_goes_137 : decode cX3_goes 137 = .ok (.imul, 1) := by decide +kernel
theorem dX3_goes_138 : decode cX3_goes 138 = .ok (.iadd, 1) := by decide +kernel
theorem dX3_goes_139 : decode cX3_goes 139 = .ok (.putfield 240, 3) := by decide +kernel
theorem dX3_goes_142 : decode cX3_goes 142 = .ok (.aload_n 3, 1) := by decide +kernel
theorem dX3_goes_143 : decode cX3_goes 143 = .ok (.getfield 207, 3) := by decide +kernel
theorem dX3_goes_146 : decode cX3_goes 146 = .ok (.ifCond .eq 8, 3) := by decide +kernel
theorem dX3_goes_149 : decode cX3_goes 149 = .ok (.aload_n 0, 1) := by decide +kernel
theorem dX3_goes_150 : decode cX3_goes 150 = .ok (.aload_n 3, 1) := by decide +kernel
theorem dX3_goes_151 : decode cX3_goes 151 = .ok (.invokevirtual 241, 3) := by decide +kernel
theorem dX3_goes_154 : decode cX3_goes 154 = .ok (.aload_n 0, 1) := by decide +kernel
theorem dX3_goes_155 : decode cX3_goes 155 = .ok (.aload_n 3, 1) := by decide +kernel
theorem dX3_goes_156 : decode cX3_goes 156 = .ok (.aload_n 2, 1) := by decide +kernel
theorem dX3_goes_157 : decode cX3_goes 157 = .ok (.invokevirtual 245, 3) := by decide +kernel
theorem dX3_goes_160 : decode cX3_goes 160 = .ok (.iconst 1, 1) := by decide +kernel
theorem dX3_goes_161 : decode cX3_goes 161 = .ok (.ireturn, 1) := by decide +kernel
theorem dX3_canBeReached_0 : decode cX3_canBeReached 0 = .ok (.aload_n 0, 1) := by decide +kernel
theorem dX3_canBeReached_1 : decode cX3_canBeReached 1 = .ok (.aload_n 0, 1) := by decide +kernel
theorem dX3_canBeReached_2 : decode cX3_canBeReached 2 = .ok (.getfield 28, 3) := by decide +kernel
theorem dX3_canBeReached_5 : decode cX3_canBeReached 5 = .ok (.getfield 231, 3) := by decide +kernel
theorem dX3_canBeReached_8 : decode cX3_canBeReached 8 = .ok (.invokevirtual 249, 3) := by decide +kernel
theorem dX3_canBeReached_11 : decode cX3_canBeReached 11 = .ok (.ifCond .eq 18, 3) := by decide +kernel
theorem dX3_canBeReached_14 : decode cX3_canBeReached 14 = .ok (.aload_n 0, 1) := by decide +kernel
theorem dX3_canBeReached_15 : decode cX3_canBeReached 15 = .ok (.getfield 28, 3) := by decide +kernel
theorem dX3_canBeReached_18 : decode cX3_canBeReached 18 = .ok (.getfield 252, 3) := by decide +kernel
theorem dX3_canBeReached_21 : decode cX3_canBeReached 21 = .ok (.iconst 0, 1) := by decide +kernel
theorem dX3_canBeReached_22 : decode cX3_canBeReached 22 = .ok (.iconst 3, 1) := by decide +kernel
theorem dX3_canBeReached_23 : decode cX3_canBeReached 23 = .ok (.invokestatic 138, 3) := by decide +kernel
theorem dX3_canBeReached_26 : decode cX3_canBeReached 26 = .ok (.ifCond .ne 5, 3) := by decide +kernel
theorem dX3_canBeReached_29 : decode cX3_canBeReached 29 = .ok (.iconst 0, 1) := by decide +kernel
theorem dX3_canBeReached_30 : decode cX3_canBeReached 30 = .ok (.ireturn, 1) := by decide +kernel
theorem dX3_canBeReached_31 : decode cX3_canBeReached 31 = .ok (.aload_n 0, 1) := by decide +kernel
theorem dX3_canBeReached_32 : decode cX3_canBeReached 32 = .ok (.getfield 34, 3) := by decide +kernel
theorem dX3_canBeReached_35 : decode cX3_canBeReached 35 = .ok (.aload_n 0, 1) := by decide +kernel
theorem dX3_canBeReached_36 : decode cX3_canBeReached 36 = .ok (.getfield 28, 3) := by decide +kernel
theorem dX3_canBeReached_39 : decode cX3_canBeReached 39 = .ok (.getfield 231, 3) := by decide +kernel
theorem dX3_canBeReached_42 : decode cX3_canBeReached 42 = .ok (.aaload, 1) := by decide +kernel
theorem dX3_canBeReached_43 : decode cX3_canBeReached 43 = .ok (.astore_n 1, 1) := by decide +kernel
theorem dX3_canBeReached_44 : decode cX3_canBeReached 44 = .ok (.aload_n 1, 1) := by decide +kernel
theorem dX3_canBeReached_45 : decode cX3_canBeReached 45 = .ok (.getfield 170, 3) := by decide +kernel
theorem dX3_canBeReached_48 : decode cX3_canBeReached 48 = .ok (.iconst (-1), 1) := by decide +kernel
theorem dX3_canBeReached_49 : decode cX3_canBeReached 49 = .ok (.if_icmp .ne 13, 3) := by decide +kernel
theorem dX3_canBeReached_52 : decode cX3_canBeReached 52 = .ok (.aload_n 0, 1) := by decide +kernel
theorem dX3_canBeReached_53 : decode cX3_canBeReached 53 = .ok (.aload_n 1, 1) := by decide +kernel
theorem dX3_canBeReached_54 : decode cX3_canBeReached 54 = .ok (.invokevirtual 255, 3) := by decide +kernel
theorem dX3_canBeReached_57 : decode cX3_canBeReached 57 = .ok (.ifCond .ne 5, 3) := by decide +kernel
theorem dX3_canBeReached_60 : decode cX3_canBeReached 60 = .ok (.iconst 0, 1) := by decide +kernel
theorem dX3_canBeReached_61 : decode cX3_canBeReached 61 = .ok (.ireturn, 1) := by decide +kernel
theorem dX3_canBeReached_62 : decode cX3_canBeReached 62 = .ok (.aload_n 0, 1) := by decide +kernel
theorem dX3_canBeReached_63 : decode cX3_canBeReached 63 = .ok (.getfield 28, 3) := by decide +kernel
theorem dX3_canBeReached_66 : decode cX3_canBeReached 66 = .ok (.aload_n 1, 1) := by decide +kernel
theorem dX3_canBeReached_67 : decode cX3_canBeReached 67 = .ok (.aload_n 0, 1) := by decide +kernel
theorem dX3_canBeReached_68 : decode cX3_canBeReached 68 = .ok (.getfield 28, 3) := by decide +kernel
theorem dX3_canBeReached_71 : decode cX3_canBeReached 71 = .ok (.getfield 220, 3) := by decide +kernel
theorem dX3_canBeReached_74 : decode cX3_canBeReached 74 = .ok (.aload_n 0, 1) := by decide +kernel
theorem dX3_canBeReached_75 : decode cX3_canBeReached 75 = .ok (.getfield 28, 3) := by decide +kernel
theorem dX3_canBeReached_78 : decode cX3_canBeReached 78 = .ok (.getfield 252, 3) := by decide +kernel
theorem dX3_canBeReached_81 : decode cX3_canBeReached 81 = .ok (.aload_n 0, 1) := by decide +kernel
theorem dX3_canBeReached_82 : decode cX3_canBeReached 82 = .ok (.getfield 55, 3) := by decide +kernel
theorem dX3_canBeReached_85 : decode cX3_canBeReached 85 = .ok (.getfield 167, 3) := by decide +kernel
theorem dX3_canBeReached_88 : decode cX3_canBeReached 88 = .ok (.invokevirtual 259, 3) := by decide +kernel
theorem dX3_canBeReached_91 : decode cX3_canBeReached 91 = .ok (.putfield 221, 3) := by decide +kernel
theorem dX3_canBeReached_94 : decode cX3_canBeReached 94 = .ok (.aload_n 0, 1) := by decide +kernel
theorem dX3_canBeReached_95 : decode cX3_canBeReached 95 = .ok (.getfield 55, 3) := by decide +kernel
theorem dX3_canBeReached_98 : decode cX3_canBeReached 98 = .ok (.aload_n 0, 1) := by decide +kernel
theorem dX3_canBeReached_99 : decode cX3_canBeReached 99 = .ok (.getfield 28, 3) := by decide +kernel
theorem dX3_canBeReached_102 : decode cX3_canBeReached 102 = .ok (.getfield 220, 3) := by decide +kernel
theorem dX3_canBeReached_105 : decode cX3_canBeReached 105 = .ok (.aload_n 0, 1) := by decide +kernel
theorem dX3_canBeReached_106 : decode cX3_canBeReached 106 = .ok (.getfield 28, 3) := by decide +kernel
theorem dX3_canBeReached_109 : decode cX3_canBeReached 109 = .ok (.getfield 221, 3) := by decide +kernel
theorem dX3_canBeReached_112 : decode cX3_canBeReached 112 = .ok (.invokevirtual 263, 3) := by decide +kernel
theorem dX3_canBeReached_115 : decode cX3_canBeReached 115 = .ok (.ireturn, 1) := by decide +kernel
theorem dX3_placeByRule_0 : decode cX3_placeByRule 0 = .ok (.aload_n 1, 1) := by decide +kernel
theorem dX3_placeByRule_1 : decode cX3_placeByRule 1 = .ok (.getfield 115, 3) := by decide +kernel
theorem dX3_placeByRule_4 : decode cX3_placeByRule 4 = .ok (.iconst 2, 1) := by decide +kernel
theorem dX3_placeByRule_5 : decode cX3_placeByRule 5 = .ok (.if_icmp .ne 10, 3) := by decide +kernel
theorem dX3_placeByRule_8 : decode cX3_placeByRule 8 = .ok (.aload_n 0, 1) := by decide +kernel
theorem dX3_placeByRule_9 : decode cX3_placeByRule 9 = .ok (.invokevirtual 266, 3) := by decide +kernel
theorem dX3_placeByRule_12 : decode cX3_placeByRule 12 = .ok (.goto 11, 3) := by decide +kernel
theorem dX3_placeByRule_15 : decode cX3_placeByRule 15 = .ok (.aload_n 0, 1) := by decide +kernel
theorem dX3_placeByRule_16 : decode cX3_placeByRule 16 = .ok (.aload_n 0, 1) := by decide +kernel
theorem dX3_placeByRule_17 : decode cX3_placeByRule 17 = .ok (.invokevirtual 266, 3) := by decide +kernel
theorem dX3_placeByRule_20 : decode cX3_placeByRule 20 = .ok (.invokevirtual 270, 3) := by decide +kernel
theorem dX3_placeByRule_23 : decode cX3_placeByRule 23 = .ok (.istore_n 2, 1) := by decide +kernel
theorem dX3_placeByRule_24 : decode cX3_placeByRule 24 = .ok (.aload_n 0, 1) := by decide +kernel
theorem dX3_placeByRule_25 : decode cX3_placeByRule 25 = .ok (.aload_n 1, 1) := by decide +kernel
theorem dX3_placeByRule_26 : decode cX3_placeByRule 26 = .ok (.iload_n 2, 1) := by decide +kernel
theorem dX3_placeByRule_27 : decode cX3_placeByRule 27 = .ok (.invokevirtual 273, 3) := by decide +kernel
theorem dX3_placeByRule_30 : decode cX3_placeByRule 30 = .ok (.ifCond .ne 5, 3) := by decide +kernel
theorem dX3_placeByRule_33 : decode cX3_placeByRule 33 = .ok (.iconst 0, 1) := by decide +kernel
theorem dX3_placeByRule_34 : decode cX3_placeByRule 34 = .ok (.ireturn, 1) := by decide +kernel
theorem dX3_placeByRule_35 : decode cX3_placeByRule 35 = .ok (.aload_n 0, 1) := by decide +kernel
theorem dX3_placeByRule_36 : decode cX3_placeByRule 36 = .ok (.aload_n 1, 1) := by decide +kernel
theorem dX3_placeByRule_37 : decode cX3_placeByRule 37 = .ok (.iload_n 2, 1) := by decide +kernel
theorem dX3_placeByRule_38 : decode cX3_placeByRule 38 = .ok (.invokevirtual 277, 3) := by decide +kernel
theorem dX3_placeByRule_41 : decode cX3_placeByRule 41 = .ok (.aload_n 0, 1) := by decide +kernel
theorem dX3_placeByRule_42 : decode cX3_placeByRule 42 = .ok (.getfield 21, 3) := by decide +kernel
theorem dX3_placeByRule_45 : decode cX3_placeByRule 45 = .ok (.getfield 281, 3) := by decide +kernel
theorem dX3_placeByRule_48 : decode cX3_placeByRule 48 = .ok (.iconst 1, 1) := by decide +kernel
theorem dX3_placeByRule_49 : decode cX3_placeByRule 49 = .ok (.if_icmp .ne 13, 3) := by decide +kernel
theorem dX3_placeByRule_52 : decode cX3_placeByRule 52 = .ok (.aload_n 0, 1) := by decide +kernel
theorem dX3_placeByRule_53 : decode cX3_placeByRule 53 = .ok (.dup, 1) := by decide +kernel
theorem dX3_placeByRule_54 : decode cX3_placeByRule 54 = .ok (.getfield 97, 3) := by decide +kernel
theorem dX3_placeByRule_57 : decode cX3_placeByRule 57 = .ok (.iconst 1, 1) := by decide +kernel
theorem dX3_placeByRule_58 : decode cX3_placeByRule 58 = .ok (.iadd, 1) := by decide +kernel
theorem dX3_placeByRule_59 : decode cX3_placeByRule 59 = .ok (.putfield 97, 3) := by decide +kernel
theorem dX3_placeByRule_62 : decode cX3_placeByRule 62 = .ok (.iconst 1, 1) := by decide +kernel
theorem dX3_placeByRule_63 : decode cX3_placeByRule 63 = .ok (.ireturn, 1) := by decide +kernel
theorem dX3_firstChoice_0 : decode cX3_firstChoice 0 = .ok (.aload_n 0, 1) := by decide +kernel
theorem dX3_firstChoice_1 : decode cX3_firstChoice 1 = .ok (.getfield 21, 3) := by decide +kernel
theorem dX3_firstChoice_4 : decode cX3_firstChoice 4 = .ok (.getfield 281, 3) := by decide +kernel
theorem dX3_firstChoice_7 : decode cX3_firstChoice 7 = .ok (.lookupswitch 43 #[(1, 25), (2, 38)], 25) := by decide +kernel
theorem dX3_firstChoice_32 : decode cX3_firstChoice 32 = .ok (.aload_n 0, 1) := by decide +kernel
theorem dX3_firstChoice_33 : decode cX3_firstChoice 33 = .ok (.getfield 97, 3) := by decide +kernel
theorem dX3_firstChoice_36 : decode cX3_firstChoice 36 = .ok (.aload_n 0, 1) := by decide +kernel
theorem dX3_firstChoice_37 : decode cX3_firstChoice 37 = .ok (.getfield 55, 3) := by decide +kernel
theorem dX3_firstChoice_40 : decode cX3_firstChoice 40 = .ok (.getfield 167, 3) := by decide +kernel
theorem dX3_firstChoice_43 : decode cX3_firstChoice 43 = .ok (.irem, 1) := by decide +kernel
theorem dX3_firstChoice_44 : decode cX3_firstChoice 44 = .ok (.ireturn, 1) := by decide +kernel
theorem dX3_firstChoice_45 : decode cX3_firstChoice 45 = .ok (.aload_n 0, 1) := by decide +kernel
theorem dX3_firstChoice_46 : decode cX3_firstChoice 46 = .ok (.invokevirtual 284, 3) := by decide +kernel
theorem dX3_firstChoice_49 : decode cX3_firstChoice 49 = .ok (.ireturn, 1) := by decide +kernel
theorem dX3_firstChoice_50 : decode cX3_firstChoice 50 = .ok (.aload_n 0, 1) := by decide +kernel
theorem dX3_firstChoice_51 : decode cX3_firstChoice 51 = .ok (.getfield 28, 3) := by decide +kernel
theorem dX3_firstChoice_54 : decode cX3_firstChoice 54 = .ok (.getfield 220, 3) := by decide +kernel
theorem dX3_firstChoice_57 : decode cX3_firstChoice 57 = .ok (.ireturn, 1) := by decide +kernel
theorem dX3_emptiest_0 : decode cX3_emptiest 0 = .ok (.iconst 0, 1) := by decide +kernel
theorem dX3_emptiest_1 : decode cX3_emptiest 1 = .ok (.istore_n 1, 1) := by decide +kernel
theorem dX3_emptiest_2 : decode cX3_emptiest 2 = .ok (.iconst 1, 1) := by decide +kernel
theorem dX3_emptiest_3 : decode cX3_emptiest 3 = .ok (.istore_n 2, 1) := by decide +kernel
theorem dX3_emptiest_4 : decode cX3_emptiest 4 = .ok (.iload_n 2, 1) := by decide +kernel
theorem dX3_emptiest_5 : decode cX3_emptiest 5 = .ok (.aload_n 0, 1) := by decide +kernel
theorem dX3_emptiest_6 : decode cX3_emptiest 6 = .ok (.getfield 55, 3) := by decide +kernel
theorem dX3_emptiest_9 : decode cX3_emptiest 9 = .ok (.getfield 167, 3) := by decide +kernel
theorem dX3_emptiest_12 : decode cX3_emptiest 12 = .ok (.if_icmp .ge 26, 3) := by decide +kernel
theorem dX3_emptiest_15 : decode cX3_emptiest 15 = .ok (.aload_n 0, 1) := by decide +kernel
theorem dX3_emptiest_16 : decode cX3_emptiest 16 = .ok (.getfield 44, 3) := by decide +kernel
theorem dX3_emptiest_19 : decode cX3_emptiest 19 = .ok (.iload_n 2, 1) := by decide +kernel
theorem dX3_emptiest_20 : decode cX3_emptiest 20 = .ok (.iaload, 1) := by decide +kernel
theorem dX3_emptiest_21 : decode cX3_emptiest 21 = .ok (.aload_n 0, 1) := by decide +kernel
theorem dX3_emptiest_22 : decode cX3_emptiest 22 = .ok (.getfield 44, 3) := by decide +kernel
theorem dX3_emptiest_25 : decode cX3_emptiest 25 = .ok (.iload_n 1, 1) := by decide +kernel
theorem dX3_emptiest_26 : decode cX3_emptiest 26 = .ok (.iaload, 1) := by decide +kernel
theorem dX3_emptiest_27 : decode cX3_emptiest 27 = .ok (.if_icmp .ge 5, 3) := by decide +kernel
theorem dX3_emptiest_30 : decode cX3_emptiest 30 = .ok (.iload_n 2, 1) := by decide +kernel
theorem dX3_emptiest_31 : decode cX3_emptiest 31 = .ok (.istore_n 1, 1) := by decide +kernel
theorem dX3_emptiest_32 : decode cX3_emptiest 32 = .ok (.iinc 2 1, 3) := by decide +kernel
theorem dX3_emptiest_35 : decode cX3_emptiest 35 = .ok (.goto (-31), 3) := by decide +kernel
theorem dX3_emptiest_38 : decode cX3_emptiest 38 = .ok (.iload_n 1, 1) := by decide +kernel
theorem dX3_emptiest_39 : decode cX3_emptiest 39 = .ok (.ireturn, 1) := by decide +kernel
theorem dX3_nextWithRoom_0 : decode cX3_nextWithRoom 0 = .ok (.iconst 0, 1) := by decide +kernel
theorem dX3_nextWithRoom_1 : decode cX3_nextWithRoom 1 = .ok (.istore_n 2, 1) := by decide +kernel
theorem dX3_nextWithRoom_2 : decode cX3_nextWithRoom 2 = .ok (.iload_n 2, 1) := by decide +kernel
theorem dX3_nextWithRoom_3 : decode cX3_nextWithRoom 3 = .ok (.aload_n 0, 1) := by decide +kernel
theorem dX3_nextWithRoom_4 : decode cX3_nextWithRoom 4 = .ok (.getfield 55, 3) := by decide +kernel
theorem dX3_nextWithRoom_7 : decode cX3_nextWithRoom 7 = .ok (.getfield 167, 3) := by decide +kernel
theorem dX3_nextWithRoom_10 : decode cX3_nextWithRoom 10 = .ok (.if_icmp .ge 31, 3) := by decide +kernel
theorem dX3_nextWithRoom_13 : decode cX3_nextWithRoom 13 = .ok (.iload_n 1, 1) := by decide +kernel
theorem dX3_nextWithRoom_14 : decode cX3_nextWithRoom 14 = .ok (.iload_n 2, 1) := by decide +kernel
theorem dX3_nextWithRoom_15 : decode cX3_nextWithRoom 15 = .ok (.iadd, 1) := by decide +kernel
theorem dX3_nextWithRoom_16 : decode cX3_nextWithRoom 16 = .ok (.aload_n 0, 1) := by decide +kernel
theorem dX3_nextWithRoom_17 : decode cX3_nextWithRoom 17 = .ok (.getfield 55, 3) := by decide +kernel
theorem dX3_nextWithRoom_20 : decode cX3_nextWithRoom 20 = .ok (.getfield 167, 3) := by decide +kernel
theorem dX3_nextWithRoom_23 : decode cX3_nextWithRoom 23 = .ok (.irem, 1) := by decide +kernel
theorem dX3_nextWithRoom_24 : decode cX3_nextWithRoom 24 = .ok (.istore_n 3, 1) := by decide +kernel
theorem dX3_nextWithRoom_25 : decode cX3_nextWithRoom 25 = .ok (.aload_n 0, 1) := by decide +kernel
theorem dX3_nextWithRoom_26 : decode cX3_nextWithRoom 26 = .ok (.iload_n 3, 1) := by decide +kernel
theorem dX3_nextWithRoom_27 : decode cX3_nextWithRoom 27 = .ok (.invokevirtual 163, 3) := by decide +kernel
theorem dX3_nextWithRoom_30 : decode cX3_nextWithRoom 30 = .ok (.ifCond .eq 5, 3) := by decide +kernel
theorem dX3_nextWithRoom_33 : decode cX3_nextWithRoom 33 = .ok (.iload_n 3, 1) := by decide +kernel
theorem dX3_nextWithRoom_34 : decode cX3_nextWithRoom 34 = .ok (.ireturn, 1) := by decide +kernel
theorem dX3_nextWithRoom_35 : decode cX3_nextWithRoom 35 = .ok (.iinc 2 1, 3) := by decide +kernel
theorem dX3_nextWithRoom_38 : decode cX3_nextWithRoom 38 = .ok (.goto (-36), 3) := by decide +kernel
theorem dX3_nextWithRoom_41 : decode cX3_nextWithRoom 41 = .ok (.iload_n 1, 1) := by decide +kernel
theorem dX3_nextWithRoom_42 : decode cX3_nextWithRoom 42 = .ok (.ireturn, 1) := by decide +kernel
theorem dX3_perform_0 : decode cX3_perform 0 = .ok (.aload_n 0, 1) := by decide +kernel
theorem dX3_perform_1 : decode cX3_perform 1 = .ok (.getfield 28, 3) := by decide +kernel
theorem dX3_perform_4 : decode cX3_perform 4 = .ok (.getfield 287, 3) := by decide +kernel
theorem dX3_perform_7 : decode cX3_perform 7 = .ok (.ifCond .eq 42, 3) := by decide +kernel
theorem dX3_perform_10 : decode cX3_perform 10 = .ok (.aload_n 1, 1) := by decide +kernel
theorem dX3_perform_11 : decode cX3_perform 11 = .ok (.getfield 290, 3) := by decide +kernel
theorem dX3_perform_14 : decode cX3_perform 14 = .ok (.aload_n 0, 1) := by decide +kernel
theorem dX3_perform_15 : decode cX3_perform 15 = .ok (.getfield 28, 3) := by decide +kernel
theorem dX3_perform_18 : decode cX3_perform 18 = .ok (.getfield 252, 3) := by decide +kernel
theorem dX3_perform_21 : decode cX3_perform 21 = .ok (.aload_n 0, 1) := by decide +kernel
theorem dX3_perform_22 : decode cX3_perform 22 = .ok (.getfield 28, 3) := by decide +kernel
theorem dX3_perform_25 : decode cX3_perform 25 = .ok (.getfield 293, 3) := by decide +kernel
theorem dX3_perform_28 : decode cX3_perform 28 = .ok (.iastore, 1) := by decide +kernel
theorem dX3_perform_29 : decode cX3_perform 29 = .ok (.aload_n 0, 1) := by decide +kernel
theorem dX3_perform_30 : decode cX3_perform 30 = .ok (.getfield 28, 3) := by decide +kernel
theorem dX3_perform_33 : decode cX3_perform 33 = .ok (.dup, 1) := by decide +kernel
theorem dX3_perform_34 : decode cX3_perform 34 = .ok (.getfield 240, 3) := by decide +kernel
theorem dX3_perform_37 : decode cX3_perform 37 = .ok (.aload_n 0, 1) := by decide +kernel
theorem dX3_perform_38 : decode cX3_perform 38 = .ok (.aload_n 1, 1) := by decide +kernel
theorem dX3_perform_39 : decode cX3_perform 39 = .ok (.invokevirtual 296, 3) := by decide +kernel
theorem dX3_perform_42 : decode cX3_perform 42 = .ok (.iadd, 1) := by decide +kernel
theorem dX3_perform_43 : decode cX3_perform 43 = .ok (.putfield 240, 3) := by decide +kernel
theorem dX3_perform_46 : decode cX3_perform 46 = .ok (.goto 36, 3) := by decide +kernel
theorem dX3_perform_49 : decode cX3_perform 49 = .ok (.aload_n 2, 1) := by decide +kernel
theorem dX3_perform_50 : decode cX3_perform 50 = .ok (.aload_n 1, 1) := by decide +kernel
theorem dX3_perform_51 : decode cX3_perform 51 = .ok (.getfield 290, 3) := by decide +kernel
theorem dX3_perform_54 : decode cX3_perform 54 = .ok (.aload_n 0, 1) := by decide +kernel
theorem dX3_perform_55 : decode cX3_perform 55 = .ok (.getfield 28, 3) := by decide +kernel
theorem dX3_perform_58 : decode cX3_perform 58 = .ok (.getfield 252, 3) := by decide +kernel
theorem dX3_perform_61 : decode cX3_perform 61 = .ok (.iaload, 1) := by decide +kernel
theorem dX3_perform_62 : decode cX3_perform 62 = .ok (.putfield 300, 3) := by decide +kernel
theorem dX3_perform_65 : decode cX3_perform 65 = .ok (.aload_n 0, 1) := by decide +kernel
theorem dX3_perform_66 : decode cX3_perform 66 = .ok (.getfield 28, 3) := by decide +kernel
theorem dX3_perform_69 : decode cX3_perform 69 = .ok (.dup, 1) := by decide +kernel
theorem dX3_perform_70 : decode cX3_perform 70 = .ok (.getfield 240, 3) := by decide +kernel
theorem dX3_perform_73 : decode cX3_perform 73 = .ok (.aload_n 0, 1) := by decide +kernel
theorem dX3_perform_74 : decode cX3_perform 74 = .ok (.aload_n 1, 1) := by decide +kernel
theorem dX3_perform_75 : decode cX3_perform 75 = .ok (.invokevirtual 303, 3) := by decide +kernel
theorem dX3_perform_78 : decode cX3_perform 78 = .ok (.iadd, 1) := by decide +kernel
theorem dX3_perform_79 : decode cX3_perform 79 = .ok (.putfield 240, 3) := by decide +kernel
theorem dX3_perform_82 : decode cX3_perform 82 = .ok (.aload_n 2, 1) := by decide +kernel
theorem dX3_perform_83 : decode cX3_perform 83 = .ok (.dup, 1) := by decide +kernel
theorem dX3_perform_84 : decode cX3_perform 84 = .ok (.getfield 306, 3) := by decide +kernel
theorem dX3_perform_87 : decode cX3_perform 87 = .ok (.iconst 1, 1) := by decide +kernel
theorem dX3_perform_88 : decode cX3_perform 88 = .ok (.iadd, 1) := by decide +kernel
theorem dX3_perform_89 : decode cX3_perform 89 = .ok (.putfield 306, 3) := by decide +kernel
theorem dX3_perform_92 : decode cX3_perform 92 = .ok (.aload_n 2, 1) := by decide +kernel
theorem dX3_perform_93 : decode cX3_perform 93 = .ok (.aload_n 0, 1) := by decide +kernel
theorem dX3_perform_94 : decode cX3_perform 94 = .ok (.getfield 28, 3) := by decide +kernel
theorem dX3_perform_97 : decode cX3_perform 97 = .ok (.getfield 240, 3) := by decide +kernel
theorem dX3_perform_100 : decode cX3_perform 100 = .ok (.putfield 153, 3) := by decide +kernel
theorem dX3_perform_103 : decode cX3_perform 103 = .ok (.aload_n 0, 1) := by decide +kernel
theorem dX3_perform_104 : decode cX3_perform 104 = .ok (.aload_n 1, 1) := by decide +kernel
theorem dX3_perform_105 : decode cX3_perform 105 = .ok (.aload_n 2, 1) := by decide +kernel
theorem dX3_perform_106 : decode cX3_perform 106 = .ok (.invokevirtual 309, 3) := by decide +kernel
theorem dX3_perform_109 : decode cX3_perform 109 = .ok (.return_, 1) := by decide +kernel
theorem dX3_takeFault_0 : decode cX3_takeFault 0 = .ok (.aload_n 1, 1) := by decide +kernel
theorem dX3_takeFault_1 : decode cX3_takeFault 1 = .ok (.iconst 0, 1) := by decide +kernel
theorem dX3_takeFault_2 : decode cX3_takeFault 2 = .ok (.putfield 207, 3) := by decide +kernel
theorem dX3_takeFault_5 : decode cX3_takeFault 5 = .ok (.aload_n 1, 1) := by decide +kernel
theorem dX3_takeFault_6 : decode cX3_takeFault 6 = .ok (.aload_n 0, 1) := by decide +kernel
theorem dX3_takeFault_7 : decode cX3_takeFault 7 = .ok (.getfield 28, 3) := by decide +kernel
theorem dX3_takeFault_10 : decode cX3_takeFault 10 = .ok (.getfield 220, 3) := by decide +kernel
theorem dX3_takeFault_13 : decode cX3_takeFault 13 = .ok (.invokevirtual 312, 3) := by decide +kernel
theorem dX3_takeFault_16 : decode cX3_takeFault 16 = .ok (.aload_n 0, 1) := by decide +kernel
theorem dX3_takeFault_17 : decode cX3_takeFault 17 = .ok (.getfield 28, 3) := by decide +kernel
theorem dX3_takeFault_20 : decode cX3_takeFault 20 = .ok (.iconst 1, 1) := by decide +kernel
theorem dX3_takeFault_21 : decode cX3_takeFault 21 = .ok (.putfield 315, 3) := by decide +kernel
theorem dX3_takeFault_24 : decode cX3_takeFault 24 = .ok (.aload_n 0, 1) := by decide +kernel
theorem dX3_takeFault_25 : decode cX3_takeFault 25 = .ok (.getfield 28, 3) := by decide +kernel
theorem dX3_takeFault_28 : decode cX3_takeFault 28 = .ok (.dup, 1) := by decide +kernel
theorem dX3_takeFault_29 : decode cX3_takeFault 29 = .ok (.getfield 240, 3) := by decide +kernel
theorem dX3_takeFault_32 : decode cX3_takeFault 32 = .ok (.aload_n 0, 1) := by decide +kernel
theorem dX3_takeFault_33 : decode cX3_takeFault 33 = .ok (.getfield 21, 3) := by decide +kernel
theorem dX3_takeFault_36 : decode cX3_takeFault 36 = .ok (.getfield 128, 3) := by decide +kernel
theorem dX3_takeFault_39 : decode cX3_takeFault 39 = .ok (.iadd, 1) := by decide +kernel
theorem dX3_takeFault_40 : decode cX3_takeFault 40 = .ok (.putfield 240, 3) := by decide +kernel
theorem dX3_takeFault_43 : decode cX3_takeFault 43 = .ok (.aload_n 0, 1) := by decide +kernel
theorem dX3_takeFault_44 : decode cX3_takeFault 44 = .ok (.dup, 1) := by decide +kernel
theorem dX3_takeFault_45 : decode cX3_takeFault 45 = .ok (.getfield 106, 3) := by decide +kernel
theorem dX3_takeFault_48 : decode cX3_takeFault 48 = .ok (.iconst 1, 1) := by decide +kernel
theorem dX3_takeFault_49 : decode cX3_takeFault 49 = .ok (.iadd, 1) := by decide +kernel
theorem dX3_takeFault_50 : decode cX3_takeFault 50 = .ok (.putfield 106, 3) := by decide +kernel
theorem dX3_takeFault_53 : decode cX3_takeFault 53 = .ok (.aload_n 1, 1) := by decide +kernel
theorem dX3_takeFault_54 : decode cX3_takeFault 54 = .ok (.getfield 115, 3) := by decide +kernel
theorem dX3_takeFault_57 : decode cX3_takeFault 57 = .ok (.ifCond .ne 8, 3) := by decide +kernel
theorem dX3_takeFault_60 : decode cX3_takeFault 60 = .ok (.aload_n 0, 1) := by decide +kernel
theorem dX3_takeFault_61 : decode cX3_takeFault 61 = .ok (.aload_n 1, 1) := by decide +kernel
theorem dX3_takeFault_62 : decode cX3_takeFault 62 = .ok (.invokevirtual 318, 3) := by decide +kernel
theorem dX3_takeFault_65 : decode cX3_takeFault 65 = .ok (.return_, 1) := by decide +kernel
theorem dX3_moveIfItPays_0 : decode cX3_moveIfItPays 0 = .ok (.aload_n 1, 1) := by decide +kernel
theorem dX3_moveIfItPays_1 : decode cX3_moveIfItPays 1 = .ok (.invokevirtual 321, 3) := by decide +kernel
theorem dX3_moveIfItPays_4 : decode cX3_moveIfItPays 4 = .ok (.istore_n 2, 1) := by decide +kernel
theorem dX3_moveIfItPays_5 : decode cX3_moveIfItPays 5 = .ok (.iload_n 2, 1) := by decide +kernel
theorem dX3_moveIfItPays_6 : decode cX3_moveIfItPays 6 = .ok (.aload_n 1, 1) := by decide +kernel
theorem dX3_moveIfItPays_7 : decode cX3_moveIfItPays 7 = .ok (.getfield 170, 3) := by decide +kernel
theorem dX3_moveIfItPays_10 : decode cX3_moveIfItPays 10 = .ok (.if_icmp .eq 11, 3) := by decide +kernel
theorem dX3_moveIfItPays_13 : decode cX3_moveIfItPays 13 = .ok (.aload_n 0, 1) := by decide +kernel
theorem dX3_moveIfItPays_14 : decode cX3_moveIfItPays 14 = .ok (.iload_n 2, 1) := by decide +kernel
theorem dX3_moveIfItPays_15 : decode cX3_moveIfItPays 15 = .ok (.invokevirtual 163, 3) := by decide +kernel
theorem dX3_moveIfItPays_18 : decode cX3_moveIfItPays 18 = .ok (.ifCond .ne 4, 3) := by decide +kernel
theorem dX3_moveIfItPays_21 : decode cX3_moveIfItPays 21 = .ok (.return_, 1) := by decide +kernel
theorem dX3_moveIfItPays_22 : decode cX3_moveIfItPays 22 = .ok (.aload_n 1, 1) := by decide +kernel
theorem dX3_moveIfItPays_23 : decode cX3_moveIfItPays 23 = .ok (.iload_n 2, 1) := by decide +kernel
theorem dX3_moveIfItPays_24 : decode cX3_moveIfItPays 24 = .ok (.aload_n 0, 1) := by decide +kernel
theorem dX3_moveIfItPays_25 : decode cX3_moveIfItPays 25 = .ok (.getfield 55, 3) := by decide +kernel
theorem dX3_moveIfItPays_28 : decode cX3_moveIfItPays 28 = .ok (.invokevirtual 324, 3) := by decide +kernel
theorem dX3_moveIfItPays_31 : decode cX3_moveIfItPays 31 = .ok (.aload_n 0, 1) := by decide +kernel
theorem dX3_moveIfItPays_32 : decode cX3_moveIfItPays 32 = .ok (.getfield 21, 3) := by decide +kernel
theorem dX3_moveIfItPays_35 : decode cX3_moveIfItPays 35 = .ok (.getfield 328, 3) := by decide +kernel
theorem dX3_moveIfItPays_38 : decode cX3_moveIfItPays 38 = .ok (.imul, 1) := by decide +kernel
theorem dX3_moveIfItPays_39 : decode cX3_moveIfItPays 39 = .ok (.aload_n 0, 1) := by decide +kernel
theorem dX3_moveIfItPays_40 : decode cX3_moveIfItPays 40 = .ok (.getfield 21, 3) := by decide +kernel
theorem dX3_moveIfItPays_43 : decode cX3_moveIfItPays 43 = .ok (.getfield 131, 3) := by decide +kernel
theorem dX3_moveIfItPays_46 : decode cX3_moveIfItPays 46 = .ok (.if_icmp .gt 4, 3) := by decide +kernel
theorem dX3_moveIfItPays_49 : decode cX3_moveIfItPays 49 = .ok (.return_, 1) := by decide +kernel
theorem dX3_moveIfItPays_50 : decode cX3_moveIfItPays 50 = .ok (.aload_n 0, 1) := by decide +kernel
theorem dX3_moveIfItPays_51 : decode cX3_moveIfItPays 51 = .ok (.getfield 44, 3) := by decide +kernel
theorem dX3_moveIfItPays_54 : decode cX3_moveIfItPays 54 = .ok (.aload_n 1, 1) := by decide +kernel
theorem dX3_moveIfItPays_55 : decode cX3_moveIfItPays 55 = .ok (.getfield 170, 3) := by decide +kernel
theorem dX3_moveIfItPays_58 : decode cX3_moveIfItPays 58 = .ok (.dup2, 1) := by decide +kernel
theorem dX3_moveIfItPays_59 : decode cX3_moveIfItPays 59 = .ok (.iaload, 1) := by decide +kernel
theorem dX3_moveIfItPays_60 : decode cX3_moveIfItPays 60 = .ok (.iconst 1, 1) := by decide +kernel
theorem dX3_moveIfItPays_61 : decode cX3_moveIfItPays 61 = .ok (.isub, 1) := by decide +kernel
theorem dX3_moveIfItPays_62 : decode cX3_moveIfItPays 62 = .ok (.iastore, 1) := by decide +kernel
theorem dX3_moveIfItPays_63 : decode cX3_moveIfItPays 63 = .ok (.aload_n 0, 1) := by decide +kernel
theorem dX3_moveIfItPays_64 : decode cX3_moveIfItPays 64 = .ok (.getfield 44, 3) := by decide +kernel
theorem dX3_moveIfItPays_67 : decode cX3_moveIfItPays 67 = .ok (.iload_n 2, 1) := by decide +kernel
theorem dX3_moveIfItPays_68 : decode cX3_moveIfItPays 68 = .ok (.dup2, 1) := by decide +kernel
theorem dX3_moveIfItPays_69 : decode cX3_moveIfItPays 69 = .ok (.iaload, 1) := by decide +kernel
theorem dX3_moveIfItPays_70 : decode cX3_moveIfItPays 70 = .ok (.iconst 1, 1) := by decide +kernel
theorem dX3_moveIfItPays_71 : decode cX3_moveIfItPays 71 = .ok (.iadd, 1) := by decide +kernel
theorem dX3_moveIfItPays_72 : decode cX3_moveIfItPays 72 = .ok (.iastore, 1) := by decide +kernel
theorem dX3_moveIfItPays_73 : decode cX3_moveIfItPays 73 = .ok (.aload_n 1, 1) := by decide +kernel
theorem dX3_moveIfItPays_74 : decode cX3_moveIfItPays 74 = .ok (.iload_n 2, 1) := by decide +kernel
theorem dX3_moveIfItPays_75 : decode cX3_moveIfItPays 75 = .ok (.putfield 170, 3) := by decide +kernel
theorem dX3_moveIfItPays_78 : decode cX3_moveIfItPays 78 = .ok (.aload_n 1, 1) := by decide +kernel
theorem dX3_moveIfItPays_79 : decode cX3_moveIfItPays 79 = .ok (.dup, 1) := by decide +kernel
theorem dX3_moveIfItPays_80 : decode cX3_moveIfItPays 80 = .ok (.getfield 331, 3) := by decide +kernel
theorem dX3_moveIfItPays_83 : decode cX3_moveIfItPays 83 = .ok (.iconst 1, 1) := by decide +kernel
theorem dX3_moveIfItPays_84 : decode cX3_moveIfItPays 84 = .ok (.iadd, 1) := by decide +kernel
theorem dX3_moveIfItPays_85 : decode cX3_moveIfItPays 85 = .ok (.putfield 331, 3) := by decide +kernel
theorem dX3_moveIfItPays_88 : decode cX3_moveIfItPays 88 = .ok (.aload_n 0, 1) := by decide +kernel
theorem dX3_moveIfItPays_89 : decode cX3_moveIfItPays 89 = .ok (.getfield 28, 3) := by decide +kernel
theorem dX3_moveIfItPays_92 : decode cX3_moveIfItPays 92 = .ok (.iconst 1, 1) := by decide +kernel
theorem dX3_moveIfItPays_93 : decode cX3_moveIfItPays 93 = .ok (.putfield 332, 3) := by decide +kernel
theorem dX3_moveIfItPays_96 : decode cX3_moveIfItPays 96 = .ok (.aload_n 0, 1) := by decide +kernel
theorem dX3_moveIfItPays_97 : decode cX3_moveIfItPays 97 = .ok (.getfield 28, 3) := by decide +kernel
theorem dX3_moveIfItPays_100 : decode cX3_moveIfItPays 100 = .ok (.dup, 1) := by decide +kernel
theorem dX3_moveIfItPays_101 : decode cX3_moveIfItPays 101 = .ok (.getfield 240, 3) := by decide +kernel
theorem dX3_moveIfItPays_104 : decode cX3_moveIfItPays 104 = .ok (.aload_n 0, 1) := by decide +kernel
theorem dX3_moveIfItPays_105 : decode cX3_moveIfItPays 105 = .ok (.getfield 21, 3) := by decide +kernel
theorem dX3_moveIfItPays_108 : decode cX3_moveIfItPays 108 = .ok (.getfield 131, 3) := by decide +kernel
theorem dX3_moveIfItPays_111 : decode cX3_moveIfItPays 111 = .ok (.iadd, 1) := by decide +kernel
theorem dX3_moveIfItPays_112 : decode cX3_moveIfItPays 112 = .ok (.putfield 240, 3) := by decide +kernel
theorem dX3_moveIfItPays_115 : decode cX3_moveIfItPays 115 = .ok (.aload_n 0, 1) := by decide +kernel
theorem dX3_moveIfItPays_116 : decode cX3_moveIfItPays 116 = .ok (.dup, 1) := by decide +kernel
theorem dX3_moveIfItPays_117 : decode cX3_moveIfItPays 117 = .ok (.getfield 109, 3) := by decide +kernel
theorem dX3_moveIfItPays_120 : decode cX3_moveIfItPays 120 = .ok (.iconst 1, 1) := by decide +kernel
theorem dX3_moveIfItPays_121 : decode cX3_moveIfItPays 121 = .ok (.iadd, 1) := by decide +kernel
theorem dX3_moveIfItPays_122 : decode cX3_moveIfItPays 122 = .ok (.putfield 109, 3) := by decide +kernel
theorem dX3_moveIfItPays_125 : decode cX3_moveIfItPays 125 = .ok (.return_, 1) := by decide +kernel
theorem dX3_bringCopy_0 : decode cX3_bringCopy 0 = .ok (.aload_n 0, 1) := by decide +kernel
theorem dX3_bringCopy_1 : decode cX3_bringCopy 1 = .ok (.getfield 28, 3) := by decide +kernel
theorem dX3_bringCopy_4 : decode cX3_bringCopy 4 = .ok (.getfield 220, 3) := by decide +kernel
theorem dX3_bringCopy_7 : decode cX3_bringCopy 7 = .ok (.istore_n 2, 1) := by decide +kernel
theorem dX3_bringCopy_8 : decode cX3_bringCopy 8 = .ok (.aload_n 1, 1) := by decide +kernel
theorem dX3_bringCopy_9 : decode cX3_bringCopy 9 = .ok (.getfield 115, 3) := by decide +kernel
theorem dX3_bringCopy_12 : decode cX3_bringCopy 12 = .ok (.iconst 1, 1) := by decide +kernel
theorem dX3_bringCopy_13 : decode cX3_bringCopy 13 = .ok (.if_icmp .ne 27, 3) := by decide +kernel
theorem dX3_bringCopy_16 : decode cX3_bringCopy 16 = .ok (.aload_n 1, 1) := by decide +kernel
theorem dX3_bringCopy_17 : decode cX3_bringCopy 17 = .ok (.getfield 170, 3) := by decide +kernel
theorem dX3_bringCopy_20 : decode cX3_bringCopy 20 = .ok (.iload_n 2, 1) := by decide +kernel
theorem dX3_bringCopy_21 : decode cX3_bringCopy 21 = .ok (.if_icmp .eq 19, 3) := by decide +kernel
theorem dX3_bringCopy_24 : decode cX3_bringCopy 24 = .ok (.aload_n 1, 1) := by decide +kernel
theorem dX3_bringCopy_25 : decode cX3_bringCopy 25 = .ok (.iload_n 2, 1) := by decide +kernel
theorem dX3_bringCopy_26 : decode cX3_bringCopy 26 = .ok (.invokevirtual 335, 3) := by decide +kernel
theorem dX3_bringCopy_29 : decode cX3_bringCopy 29 = .ok (.ifCond .ne 11, 3) := by decide +kernel
theorem dX3_bringCopy_32 : decode cX3_bringCopy 32 = .ok (.aload_n 0, 1) := by decide +kernel
theorem dX3_bringCopy_33 : decode cX3_bringCopy 33 = .ok (.iload_n 2, 1) := by decide +kernel
theorem dX3_bringCopy_34 : decode cX3_bringCopy 34 = .ok (.invokevirtual 163, 3) := by decide +kernel
theorem dX3_bringCopy_37 : decode cX3_bringCopy 37 = .ok (.ifCond .ne 5, 3) := by decide +kernel
theorem dX3_bringCopy_40 : decode cX3_bringCopy 40 = .ok (.iconst 0, 1) := by decide +kernel
theorem dX3_bringCopy_41 : decode cX3_bringCopy 41 = .ok (.ireturn, 1) := by decide +kernel
theorem dX3_bringCopy_42 : decode cX3_bringCopy 42 = .ok (.aload_n 1, 1) := by decide +kernel
theorem dX3_bringCopy_43 : decode cX3_bringCopy 43 = .ok (.dup, 1) := by decide +kernel
theorem dX3_bringCopy_44 : decode cX3_bringCopy 44 = .ok (.getfield 338, 3) := by decide +kernel
theorem dX3_bringCopy_47 : decode cX3_bringCopy 47 = .ok (.iconst 1, 1) := by decide +kernel
theorem dX3_bringCopy_48 : decode cX3_bringCopy 48 = .ok (.iload_n 2, 1) := by decide +kernel
theorem dX3_bringCopy_49 : decode cX3_bringCopy 49 = .ok (.ishl, 1) := by decide +kernel
theorem dX3_bringCopy_50 : decode cX3_bringCopy 50 = .ok (.ior, 1) := by decide +kernel
theorem dX3_bringCopy_51 : decode cX3_bringCopy 51 = .ok (.putfield 338, 3) := by decide +kernel
theorem dX3_bringCopy_54 : decode cX3_bringCopy 54 = .ok (.aload_n 0, 1) := by decide +kernel
theorem dX3_bringCopy_55 : decode cX3_bringCopy 55 = .ok (.getfield 44, 3) := by decide +kernel
theorem dX3_bringCopy_58 : decode cX3_bringCopy 58 = .ok (.iload_n 2, 1) := by decide +kernel
theorem dX3_bringCopy_59 : decode cX3_bringCopy 59 = .ok (.dup2, 1) := by decide +kernel
theorem dX3_bringCopy_60 : decode cX3_bringCopy 60 = .ok (.iaload, 1) := by decide +kernel
theorem dX3_bringCopy_61 : decode cX3_bringCopy 61 = .ok (.iconst 1, 1) := by decide +kernel
theorem dX3_bringCopy_62 : decode cX3_bringCopy 62 = .ok (.iadd, 1) := by decide +kernel
theorem dX3_bringCopy_63 : decode cX3_bringCopy 63 = .ok (.iastore, 1) := by decide +kernel
theorem dX3_bringCopy_64 : decode cX3_bringCopy 64 = .ok (.iconst 1, 1) := by decide +kernel
theorem dX3_bringCopy_65 : decode cX3_bringCopy 65 = .ok (.ireturn, 1) := by decide +kernel
theorem dX3_endCopies_0 : decode cX3_endCopies 0 = .ok (.aload_n 1, 1) := by decide +kernel
theorem dX3_endCopies_1 : decode cX3_endCopies 1 = .ok (.getfield 338, 3) := by decide +kernel
theorem dX3_endCopies_4 : decode cX3_endCopies 4 = .ok (.invokestatic 341, 3) := by decide +kernel
theorem dX3_endCopies_7 : decode cX3_endCopies 7 = .ok (.istore_n 2, 1) := by decide +kernel
theorem dX3_endCopies_8 : decode cX3_endCopies 8 = .ok (.aload_n 1, 1) := by decide +kernel
theorem dX3_endCopies_9 : decode cX3_endCopies 9 = .ok (.aload_n 0, 1) := by decide +kernel
theorem dX3_endCopies_10 : decode cX3_endCopies 10 = .ok (.getfield 28, 3) := by decide +kernel
theorem dX3_endCopies_13 : decode cX3_endCopies 13 = .ok (.getfield 220, 3) := by decide +kernel
theorem dX3_endCopies_16 : decode cX3_endCopies 16 = .ok (.invokevirtual 335, 3) := by decide +kernel
theorem dX3_endCopies_19 : decode cX3_endCopies 19 = .ok (.ifCond .eq 49, 3) := by decide +kernel
theorem dX3_endCopies_22 : decode cX3_endCopies 22 = .ok (.aload_n 1, 1) := by decide +kernel
theorem dX3_endCopies_23 : decode cX3_endCopies 23 = .ok (.dup, 1) := by decide +kernel
theorem dX3_endCopies_24 : decode cX3_endCopies 24 = .ok (.getfield 338, 3) := by decide +kernel
theorem dX3_endCopies_27 : decode cX3_endCopies 27 = .ok (.iconst 1, 1) := by decide +kernel
theorem dX3_endCopies_28 : decode cX3_endCopies 28 = .ok (.aload_n 1, 1) := by decide +kernel
theorem dX3_endCopies_29 : decode cX3_endCopies 29 = .ok (.getfield 170, 3) := by decide +kernel
theorem dX3_endCopies_32 : decode cX3_endCopies 32 = .ok (.ishl, 1) := by decide +kernel
theorem dX3_endCopies_33 : decode cX3_endCopies 33 = .ok (.ior, 1) := by decide +kernel
theorem dX3_endCopies_34 : decode cX3_endCopies 34 = .ok (.putfield 338, 3) := by decide +kernel
theorem dX3_endCopies_37 : decode cX3_endCopies 37 = .ok (.aload_n 1, 1) := by decide +kernel
theorem dX3_endCopies_38 : decode cX3_endCopies 38 = .ok (.dup, 1) := by decide +kernel
theorem dX3_endCopies_39 : decode cX3_endCopies 39 = .ok (.getfield 338, 3) := by decide +kernel
theorem dX3_endCopies_42 : decode cX3_endCopies 42 = .ok (.iconst 1, 1) := by decide +kernel
theorem dX3_endCopies_43 : decode cX3_endCopies 43 = .ok (.aload_n 0, 1) := by decide +kernel
theorem dX3_endCopies_44 : decode cX3_endCopies 44 = .ok (.getfield 28, 3) := by decide +kernel
theorem dX3_endCopies_47 : decode cX3_endCopies 47 = .ok (.getfield 220, 3) := by decide +kernel
theorem dX3_endCopies_50 : decode cX3_endCopies 50 = .ok (.ishl, 1) := by decide +kernel
theorem dX3_endCopies_51 : decode cX3_endCopies 51 = .ok (.iconst (-1), 1) := by decide +kernel
theorem dX3_endCopies_52 : decode cX3_endCopies 52 = .ok (.ixor, 1) := by decide +kernel
theorem dX3_endCopies_53 : decode cX3_endCopies 53 = .ok (.iand, 1) := by decide +kernel
theorem dX3_endCopies_54 : decode cX3_endCopies 54 = .ok (.putfield 338, 3) := by decide +kernel
theorem dX3_endCopies_57 : decode cX3_endCopies 57 = .ok (.aload_n 1, 1) := by decide +kernel
theorem dX3_endCopies_58 : decode cX3_endCopies 58 = .ok (.aload_n 0, 1) := by decide +kernel
theorem dX3_endCopies_59 : decode cX3_endCopies 59 = .ok (.getfield 28, 3) := by decide +kernel
theorem dX3_endCopies_62 : decode cX3_endCopies 62 = .ok (.getfield 220, 3) := by decide +kernel
theorem dX3_endCopies_65 : decode cX3_endCopies 65 = .ok (.putfield 170, 3) := by decide +kernel
theorem dX3_endCopies_68 : decode cX3_endCopies 68 = .ok (.iconst 0, 1) := by decide +kernel
theorem dX3_endCopies_69 : decode cX3_endCopies 69 = .ok (.istore_n 3, 1) := by decide +kernel
theorem dX3_endCopies_70 : decode cX3_endCopies 70 = .ok (.iload_n 3, 1) := by decide +kernel
theorem dX3_endCopies_71 : decode cX3_endCopies 71 = .ok (.aload_n 0, 1) := by decide +kernel
theorem dX3_endCopies_72 : decode cX3_endCopies 72 = .ok (.getfield 55, 3) := by decide +kernel
theorem dX3_endCopies_75 : decode cX3_endCopies 75 = .ok (.getfield 167, 3) := by decide +kernel
theorem dX3_endCopies_78 : decode cX3_endCopies 78 = .ok (.if_icmp .ge 27, 3) := by decide +kernel
theorem dX3_endCopies_81 : decode cX3_endCopies 81 = .ok (.aload_n 1, 1) := by decide +kernel
theorem dX3_endCopies_82 : decode cX3_endCopies 82 = .ok (.iload_n 3, 1) := by decide +kernel
theorem dX3_endCopies_83 : decode cX3_endCopies 83 = .ok (.invokevirtual 335, 3) := by decide +kernel
theorem dX3_endCopies_86 : decode cX3_endCopies 86 = .ok (.ifCond .eq 13, 3) := by decide +kernel
theorem dX3_endCopies_89 : decode cX3_endCopies 89 = .ok (.aload_n 0, 1) := by decide +kernel
theorem dX3_endCopies_90 : decode cX3_endCopies 90 = .ok (.getfield 44, 3) := by decide +kernel
theorem dX3_endCopies_93 : decode cX3_endCopies 93 = .ok (.iload_n 3, 1) := by decide +kernel
theorem dX3_endCopies_94 : decode cX3_endCopies 94 = .ok (.dup2, 1) := by decide +kernel
theorem dX3_endCopies_95 : decode cX3_endCopies 95 = .ok (.iaload, 1) := by decide +kernel
theorem dX3_endCopies_96 : decode cX3_endCopies 96 = .ok (.iconst 1, 1) := by decide +kernel
theorem dX3_endCopies_97 : decode cX3_endCopies 97 = .ok (.isub, 1) := by decide +kernel
theorem dX3_endCopies_98 : decode cX3_endCopies 98 = .ok (.iastore, 1) := by decide +kernel
theorem dX3_endCopies_99 : decode cX3_endCopies 99 = .ok (.iinc 3 1, 3) := by decide +kernel
theorem dX3_endCopies_102 : decode cX3_endCopies 102 = .ok (.goto (-32), 3) := by decide +kernel
theorem dX3_endCopies_105 : decode cX3_endCopies 105 = .ok (.aload_n 1, 1) := by decide +kernel
theorem dX3_endCopies_106 : decode cX3_endCopies 106 = .ok (.iconst 0, 1) := by decide +kernel
theorem dX3_endCopies_107 : decode cX3_endCopies 107 = .ok (.putfield 338, 3) := by decide +kernel
theorem dX3_endCopies_110 : decode cX3_endCopies 110 = .ok (.iload_n 2, 1) := by decide +kernel
theorem dX3_endCopies_111 : decode cX3_endCopies 111 = .ok (.ireturn, 1) := by decide +kernel
theorem dX3_enterInBills_0 : decode cX3_enterInBills 0 = .ok (.aload_n 2, 1) := by decide +kernel
theorem dX3_enterInBills_1 : decode cX3_enterInBills 1 = .ok (.dup, 1) := by decide +kernel
theorem dX3_enterInBills_2 : decode cX3_enterInBills 2 = .ok (.getfield 346, 3) := by decide +kernel
theorem dX3_enterInBills_5 : decode cX3_enterInBills 5 = .ok (.aload_n 0, 1) := by decide +kernel
theorem dX3_enterInBills_6 : decode cX3_enterInBills 6 = .ok (.getfield 28, 3) := by decide +kernel
theorem dX3_enterInBills_9 : decode cX3_enterInBills 9 = .ok (.getfield 240, 3) := by decide +kernel
theorem dX3_enterInBills_12 : decode cX3_enterInBills 12 = .ok (.iadd, 1) := by decide +kernel
theorem dX3_enterInBills_13 : decode cX3_enterInBills 13 = .ok (.putfield 346, 3) := by decide +kernel
theorem dX3_enterInBills_16 : decode cX3_enterInBills 16 = .ok (.aload_n 1, 1) := by decide +kernel
theorem dX3_enterInBills_17 : decode cX3_enterInBills 17 = .ok (.dup, 1) := by decide +kernel
theorem dX3_enterInBills_18 : decode cX3_enterInBills 18 = .ok (.getfield 349, 3) := by decide +kernel
theorem dX3_enterInBills_21 : decode cX3_enterInBills 21 = .ok (.aload_n 0, 1) := by decide +kernel
theorem dX3_enterInBills_22 : decode cX3_enterInBills 22 = .ok (.getfield 28, 3) := by decide +kernel
theorem dX3_enterInBills_25 : decode cX3_enterInBills 25 = .ok (.getfield 240, 3) := by decide +kernel
theorem dX3_enterInBills_28 : decode cX3_enterInBills 28 = .ok (.iadd, 1) := by decide +kernel
theorem dX3_enterInBills_29 : decode cX3_enterInBills 29 = .ok (.putfield 349, 3) := by decide +kernel
theorem dX3_enterInBills_32 : decode cX3_enterInBills 32 = .ok (.aload_n 0, 1) := by decide +kernel
theorem dX3_enterInBills_33 : decode cX3_enterInBills 33 = .ok (.getfield 48, 3) := by decide +kernel
theorem dX3_enterInBills_36 : decode cX3_enterInBills 36 = .ok (.aload_n 0, 1) := by decide +kernel
theorem dX3_enterInBills_37 : decode cX3_enterInBills 37 = .ok (.getfield 28, 3) := by decide +kernel
theorem dX3_enterInBills_40 : decode cX3_enterInBills 40 = .ok (.getfield 220, 3) := by decide +kernel
theorem dX3_enterInBills_43 : decode cX3_enterInBills 43 = .ok (.dup2, 1) := by decide +kernel
theorem dX3_enterInBills_44 : decode cX3_enterInBills 44 = .ok (.iaload, 1) := by decide +kernel
theorem dX3_enterInBills_45 : decode cX3_enterInBills 45 = .ok (.aload_n 0, 1) := by decide +kernel
theorem dX3_enterInBills_46 : decode cX3_enterInBills 46 = .ok (.getfield 28, 3) := by decide +kernel
theorem dX3_enterInBills_49 : decode cX3_enterInBills 49 = .ok (.getfield 240, 3) := by decide +kernel
theorem dX3_enterInBills_52 : decode cX3_enterInBills 52 = .ok (.iadd, 1) := by decide +kernel
theorem dX3_enterInBills_53 : decode cX3_enterInBills 53 = .ok (.iastore, 1) := by decide +kernel
theorem dX3_enterInBills_54 : decode cX3_enterInBills 54 = .ok (.aload_n 0, 1) := by decide +kernel
theorem dX3_enterInBills_55 : decode cX3_enterInBills 55 = .ok (.dup, 1) := by decide +kernel
theorem dX3_enterInBills_56 : decode cX3_enterInBills 56 = .ok (.getfield 103, 3) := by decide +kernel
theorem dX3_enterInBills_59 : decode cX3_enterInBills 59 = .ok (.aload_n 0, 1) := by decide +kernel
theorem dX3_enterInBills_60 : decode cX3_enterInBills 60 = .ok (.getfield 28, 3) := by decide +kernel
theorem dX3_enterInBills_63 : decode cX3_enterInBills 63 = .ok (.getfield 240, 3) := by decide +kernel
theorem dX3_enterInBills_66 : decode cX3_enterInBills 66 = .ok (.iadd, 1) := by decide +kernel
theorem dX3_enterInBills_67 : decode cX3_enterInBills 67 = .ok (.putfield 103, 3) := by decide +kernel
theorem dX3_enterInBills_70 : decode cX3_enterInBills 70 = .ok (.aload_n 0, 1) := by decide +kernel
theorem dX3_enterInBills_71 : decode cX3_enterInBills 71 = .ok (.dup, 1) := by decide +kernel
theorem dX3_enterInBills_72 : decode cX3_enterInBills 72 = .ok (.getfield 100, 3) := by decide +kernel
theorem dX3_enterInBills_75 : decode cX3_enterInBills 75 = .ok (.iconst 1, 1) := by decide +kernel
theorem dX3_enterInBills_76 : decode cX3_enterInBills 76 = .ok (.iadd, 1) := by decide +kernel
theorem dX3_enterInBills_77 : decode cX3_enterInBills 77 = .ok (.putfield 100, 3) := by decide +kernel
theorem dX3_enterInBills_80 : decode cX3_enterInBills 80 = .ok (.aload_n 0, 1) := by decide +kernel
theorem dX3_enterInBills_81 : decode cX3_enterInBills 81 = .ok (.getfield 73, 3) := by decide +kernel
theorem dX3_enterInBills_84 : decode cX3_enterInBills 84 = .ok (.aload_n 0, 1) := by decide +kernel
theorem dX3_enterInBills_85 : decode cX3_enterInBills 85 = .ok (.getfield 51, 3) := by decide +kernel
theorem dX3_enterInBills_88 : decode cX3_enterInBills 88 = .ok (.aload_n 0, 1) := by decide +kernel
theorem dX3_enterInBills_89 : decode cX3_enterInBills 89 = .ok (.getfield 28, 3) := by decide +kernel
theorem dX3_enterInBills_92 : decode cX3_enterInBills 92 = .ok (.invokevirtual 350, 3) := by decide +kernel
theorem dX3_enterInBills_95 : decode cX3_enterInBills 95 = .ok (.return_, 1) := by decide +kernel
