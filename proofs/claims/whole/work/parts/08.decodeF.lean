theorem dX12_look_91 : decode cX12_look 91 = .ok (.goto 4, 3) := by decide +kernel
theorem dX12_look_94 : decode cX12_look 94 = .ok (.iconst 0, 1) := by decide +kernel
theorem dX12_look_95 : decode cX12_look 95 = .ok (.ireturn, 1) := by decide +kernel
theorem dX12_look_96 : decode cX12_look 96 = .ok (.aload_n 0, 1) := by decide +kernel
theorem dX12_look_97 : decode cX12_look 97 = .ok (.getfield 88, 3) := by decide +kernel
theorem dX12_look_100 : decode cX12_look 100 = .ok (.iload_n 1, 1) := by decide +kernel
theorem dX12_look_101 : decode cX12_look 101 = .ok (.iaload, 1) := by decide +kernel
theorem dX12_look_102 : decode cX12_look 102 = .ok (.ireturn, 1) := by decide +kernel
theorem dX12_look_103 : decode cX12_look 103 = .ok (.aload_n 0, 1) := by decide +kernel
theorem dX12_look_104 : decode cX12_look 104 = .ok (.getfield 94, 3) := by decide +kernel
theorem dX12_look_107 : decode cX12_look 107 = .ok (.iload_n 1, 1) := by decide +kernel
theorem dX12_look_108 : decode cX12_look 108 = .ok (.iaload, 1) := by decide +kernel
theorem dX12_look_109 : decode cX12_look 109 = .ok (.ireturn, 1) := by decide +kernel
theorem dX12_look_110 : decode cX12_look 110 = .ok (.aload_n 0, 1) := by decide +kernel
theorem dX12_look_111 : decode cX12_look 111 = .ok (.getfield 97, 3) := by decide +kernel
theorem dX12_look_114 : decode cX12_look 114 = .ok (.iload_n 1, 1) := by decide +kernel
theorem dX12_look_115 : decode cX12_look 115 = .ok (.laload, 1) := by decide +kernel
theorem dX12_look_116 : decode cX12_look 116 = .ok (.l2i, 1) := by decide +kernel
theorem dX12_look_117 : decode cX12_look 117 = .ok (.ireturn, 1) := by decide +kernel
theorem dX12_look_118 : decode cX12_look 118 = .ok (.iconst (-1), 1) := by decide +kernel
theorem dX12_look_119 : decode cX12_look 119 = .ok (.ireturn, 1) := by decide +kernel
theorem dX12_fault_0 : decode cX12_fault 0 = .ok (.aload_n 0, 1) := by decide +kernel
theorem dX12_fault_1 : decode cX12_fault 1 = .ok (.iconst 0, 1) := by decide +kernel
theorem dX12_fault_2 : decode cX12_fault 2 = .ok (.putfield 194, 3) := by decide +kernel
theorem dX12_fault_5 : decode cX12_fault 5 = .ok (.aload_n 0, 1) := by decide +kernel
theorem dX12_fault_6 : decode cX12_fault 6 = .ok (.iload_n 1, 1) := by decide +kernel
theorem dX12_fault_7 : decode cX12_fault 7 = .ok (.invokevirtual 253, 3) := by decide +kernel
theorem dX12_fault_10 : decode cX12_fault 10 = .ok (.ifCond .eq 17, 3) := by decide +kernel
theorem dX12_fault_13 : decode cX12_fault 13 = .ok (.iload_n 2, 1) := by decide +kernel
theorem dX12_fault_14 : decode cX12_fault 14 = .ok (.ifCond .lt 13, 3) := by decide +kernel
theorem dX12_fault_17 : decode cX12_fault 17 = .ok (.iload_n 2, 1) := by decide +kernel
theorem dX12_fault_18 : decode cX12_fault 18 = .ok (.aload_n 0, 1) := by decide +kernel
theorem dX12_fault_19 : decode cX12_fault 19 = .ok (.getfield 88, 3) := by decide +kernel
theorem dX12_fault_22 : decode cX12_fault 22 = .ok (.iload_n 1, 1) := by decide +kernel
theorem dX12_fault_23 : decode cX12_fault 23 = .ok (.iaload, 1) := by decide +kernel
theorem dX12_fault_24 : decode cX12_fault 24 = .ok (.if_icmp .lt 7, 3) := by decide +kernel
theorem dX12_fault_27 : decode cX12_fault 27 = .ok (.iconst (-1), 1) := by decide +kernel
theorem dX12_fault_28 : decode cX12_fault 28 = .ok (.goto 22, 3) := by decide +kernel
theorem dX12_fault_31 : decode cX12_fault 31 = .ok (.aload_n 0, 1) := by decide +kernel
theorem dX12_fault_32 : decode cX12_fault 32 = .ok (.getfield 91, 3) := by decide +kernel
theorem dX12_fault_35 : decode cX12_fault 35 = .ok (.iconst 4, 1) := by decide +kernel
theorem dX12_fault_36 : decode cX12_fault 36 = .ok (.iload_n 1, 1) := by decide +kernel
theorem dX12_fault_37 : decode cX12_fault 37 = .ok (.imul, 1) := by decide +kernel
theorem dX12_fault_38 : decode cX12_fault 38 = .ok (.aload_n 0, 1) := by decide +kernel
theorem dX12_fault_39 : decode cX12_fault 39 = .ok (.getfield 88, 3) := by decide +kernel
theorem dX12_fault_42 : decode cX12_fault 42 = .ok (.iload_n 1, 1) := by decide +kernel
theorem dX12_fault_43 : decode cX12_fault 43 = .ok (.iaload, 1) := by decide +kernel
theorem dX12_fault_44 : decode cX12_fault 44 = .ok (.iadd, 1) := by decide +kernel
theorem dX12_fault_45 : decode cX12_fault 45 = .ok (.iconst 1, 1) := by decide +kernel
theorem dX12_fault_46 : decode cX12_fault 46 = .ok (.isub, 1) := by decide +kernel
theorem dX12_fault_47 : decode cX12_fault 47 = .ok (.iload_n 2, 1) := by decide +kernel
theorem dX12_fault_48 : decode cX12_fault 48 = .ok (.isub, 1) := by decide +kernel
theorem dX12_fault_49 : decode cX12_fault 49 = .ok (.iaload, 1) := by decide +kernel
theorem dX12_fault_50 : decode cX12_fault 50 = .ok (.ireturn, 1) := by decide +kernel
theorem dX12_cell_0 : decode cX12_cell 0 = .ok (.aload_n 0, 1) := by decide +kernel
theorem dX12_cell_1 : decode cX12_cell 1 = .ok (.aload_n 0, 1) := by decide +kernel
theorem dX12_cell_2 : decode cX12_cell 2 = .ok (.iload_n 1, 1) := by decide +kernel
theorem dX12_cell_3 : decode cX12_cell 3 = .ok (.invokevirtual 253, 3) := by decide +kernel
theorem dX12_cell_6 : decode cX12_cell 6 = .ok (.ifCond .eq 19, 3) := by decide +kernel
theorem dX12_cell_9 : decode cX12_cell 9 = .ok (.iload_n 2, 1) := by decide +kernel
theorem dX12_cell_10 : decode cX12_cell 10 = .ok (.i2l, 1) := by decide +kernel
theorem dX12_cell_11 : decode cX12_cell 11 = .ok (.lconst 0, 1) := by decide +kernel
theorem dX12_cell_12 : decode cX12_cell 12 = .ok (.ldc2_w 226, 3) := by decide +kernel
theorem dX12_cell_15 : decode cX12_cell 15 = .ok (.invokestatic 214, 3) := by decide +kernel
theorem dX12_cell_18 : decode cX12_cell 18 = .ok (.ifCond .eq 7, 3) := by decide +kernel
theorem dX12_cell_21 : decode cX12_cell 21 = .ok (.iconst 0, 1) := by decide +kernel
theorem dX12_cell_22 : decode cX12_cell 22 = .ok (.goto 4, 3) := by decide +kernel
theorem dX12_cell_25 : decode cX12_cell 25 = .ok (.iconst 1, 1) := by decide +kernel
theorem dX12_cell_26 : decode cX12_cell 26 = .ok (.putfield 194, 3) := by decide +kernel
theorem dX12_cell_29 : decode cX12_cell 29 = .ok (.aload_n 0, 1) := by decide +kernel
theorem dX12_cell_30 : decode cX12_cell 30 = .ok (.getfield 194, 3) := by decide +kernel
theorem dX12_cell_33 : decode cX12_cell 33 = .ok (.ifCond .le 7, 3) := by decide +kernel
theorem dX12_cell_36 : decode cX12_cell 36 = .ok (.iconst 0, 1) := by decide +kernel
theorem dX12_cell_37 : decode cX12_cell 37 = .ok (.goto 13, 3) := by decide +kernel
theorem dX12_cell_40 : decode cX12_cell 40 = .ok (.aload_n 0, 1) := by decide +kernel
theorem dX12_cell_41 : decode cX12_cell 41 = .ok (.getfield 100, 3) := by decide +kernel
theorem dX12_cell_44 : decode cX12_cell 44 = .ok (.iconst 4, 1) := by decide +kernel
theorem dX12_cell_45 : decode cX12_cell 45 = .ok (.iload_n 1, 1) := by decide +kernel
theorem dX12_cell_46 : decode cX12_cell 46 = .ok (.imul, 1) := by decide +kernel
theorem dX12_cell_47 : decode cX12_cell 47 = .ok (.iload_n 2, 1) := by decide +kernel
theorem dX12_cell_48 : decode cX12_cell 48 = .ok (.iadd, 1) := by decide +kernel
theorem dX12_cell_49 : decode cX12_cell 49 = .ok (.iaload, 1) := by decide +kernel
theorem dX12_cell_50 : decode cX12_cell 50 = .ok (.ireturn, 1) := by decide +kernel
theorem dX12_queuePlace_0 : decode cX12_queuePlace 0 = .ok (.iconst 0, 1) := by decide +kernel
theorem dX12_queuePlace_1 : decode cX12_queuePlace 1 = .ok (.istore_n 2, 1) := by decide +kernel
theorem dX12_queuePlace_2 : decode cX12_queuePlace 2 = .ok (.iconst 0, 1) := by decide +kernel
theorem dX12_queuePlace_3 : decode cX12_queuePlace 3 = .ok (.istore_n 3, 1) := by decide +kernel
theorem dX12_queuePlace_4 : decode cX12_queuePlace 4 = .ok (.iload_n 3, 1) := by decide +kernel
theorem dX12_queuePlace_5 : decode cX12_queuePlace 5 = .ok (.aload_n 0, 1) := by decide +kernel
theorem dX12_queuePlace_6 : decode cX12_queuePlace 6 = .ok (.getfield 200, 3) := by decide +kernel
theorem dX12_queuePlace_9 : decode cX12_queuePlace 9 = .ok (.if_icmp .ge 47, 3) := by decide +kernel
theorem dX12_queuePlace_12 : decode cX12_queuePlace 12 = .ok (.iload_n 2, 1) := by decide +kernel
theorem dX12_queuePlace_13 : decode cX12_queuePlace 13 = .ok (.aload_n 0, 1) := by decide +kernel
theorem dX12_queuePlace_14 : decode cX12_queuePlace 14 = .ok (.getfield 103, 3) := by decide +kernel
theorem dX12_queuePlace_17 : decode cX12_queuePlace 17 = .ok (.iload_n 3, 1) := by decide +kernel
theorem dX12_queuePlace_18 : decode cX12_queuePlace 18 = .ok (.iaload, 1) := by decide +kernel
theorem dX12_queuePlace_19 : decode cX12_queuePlace 19 = .ok (.aload_n 0, 1) := by decide +kernel
theorem dX12_queuePlace_20 : decode cX12_queuePlace 20 = .ok (.getfield 103, 3) := by decide +kernel
theorem dX12_queuePlace_23 : decode cX12_queuePlace 23 = .ok (.iload_n 1, 1) := by decide +kernel
theorem dX12_queuePlace_24 : decode cX12_queuePlace 24 = .ok (.iaload, 1) := by decide +kernel
theorem dX12_queuePlace_25 : decode cX12_queuePlace 25 = .ok (.if_icmp .ne 22, 3) := by decide +kernel
theorem dX12_queuePlace_28 : decode cX12_queuePlace 28 = .ok (.aload_n 0, 1) := by decide +kernel
theorem dX12_queuePlace_29 : decode cX12_queuePlace 29 = .ok (.getfield 106, 3) := by decide +kernel
theorem dX12_queuePlace_32 : decode cX12_queuePlace 32 = .ok (.iload_n 3, 1) := by decide +kernel
theorem dX12_queuePlace_33 : decode cX12_queuePlace 33 = .ok (.iaload, 1) := by decide +kernel
theorem dX12_queuePlace_34 : decode cX12_queuePlace 34 = .ok (.aload_n 0, 1) := by decide +kernel
theorem dX12_queuePlace_35 : decode cX12_queuePlace 35 = .ok (.getfield 106, 3) := by decide +kernel
theorem dX12_queuePlace_38 : decode cX12_queuePlace 38 = .ok (.iload_n 1, 1) := by decide +kernel
theorem dX12_queuePlace_39 : decode cX12_queuePlace 39 = .ok (.iaload, 1) := by decide +kernel
theorem dX12_queuePlace_40 : decode cX12_queuePlace 40 = .ok (.if_icmp .ge 7, 3) := by decide +kernel
theorem dX12_queuePlace_43 : decode cX12_queuePlace 43 = .ok (.iconst 1, 1) := by decide +kernel
theorem dX12_queuePlace_44 : decode cX12_queuePlace 44 = .ok (.goto 4, 3) := by decide +kernel
theorem dX12_queuePlace_47 : decode cX12_queuePlace 47 = .ok (.iconst 0, 1) := by decide +kernel
theorem dX12_queuePlace_48 : decode cX12_queuePlace 48 = .ok (.iadd, 1) := by decide +kernel
theorem dX12_queuePlace_49 : decode cX12_queuePlace 49 = .ok (.istore_n 2, 1) := by decide +kernel
theorem dX12_queuePlace_50 : decode cX12_queuePlace 50 = .ok (.iinc 3 1, 3) := by decide +kernel
theorem dX12_queuePlace_53 : decode cX12_queuePlace 53 = .ok (.goto (-49), 3) := by decide +kernel
theorem dX12_queuePlace_56 : decode cX12_queuePlace 56 = .ok (.iload_n 2, 1) := by decide +kernel
theorem dX12_queuePlace_57 : decode cX12_queuePlace 57 = .ok (.ireturn, 1) := by decide +kernel
theorem dX12_about_0 : decode cX12_about 0 = .ok (.aload_n 0, 1) := by decide +kernel
theorem dX12_about_1 : decode cX12_about 1 = .ok (.iconst 0, 1) := by decide +kernel
theorem dX12_about_2 : decode cX12_about 2 = .ok (.putfield 194, 3) := by decide +kernel
theorem dX12_about_5 : decode cX12_about 5 = .ok (.aload_n 0, 1) := by decide +kernel
theorem dX12_about_6 : decode cX12_about 6 = .ok (.iload_n 1, 1) := by decide +kernel
theorem dX12_about_7 : decode cX12_about 7 = .ok (.invokevirtual 228, 3) := by decide +kernel
theorem dX12_about_10 : decode cX12_about 10 = .ok (.ifCond .ne 5, 3) := by decide +kernel
theorem dX12_about_13 : decode cX12_about 13 = .ok (.iconst (-1), 1) := by decide +kernel
theorem dX12_about_14 : decode cX12_about 14 = .ok (.ireturn, 1) := by decide +kernel
theorem dX12_about_15 : decode cX12_about 15 = .ok (.iload_n 2, 1) := by decide +kernel
theorem dX12_about_16 : decode cX12_about 16 = .ok (.tableswitch 132 0 7 #[48, 55, 62, 89, 96, 103, 118, 126], 48) := by decide +kernel
theorem dX12_about_64 : decode cX12_about 64 = .ok (.aload_n 0, 1) := by decide +kernel
theorem dX12_about_65 : decode cX12_about 65 = .ok (.getfield 103, 3) := by decide +kernel
theorem dX12_about_68 : decode cX12_about 68 = .ok (.iload_n 1, 1) := by decide +kernel
theorem dX12_about_69 : decode cX12_about 69 = .ok (.iaload, 1) := by decide +kernel
theorem dX12_about_70 : decode cX12_about 70 = .ok (.ireturn, 1) := by decide +kernel
theorem dX12_about_71 : decode cX12_about 71 = .ok (.aload_n 0, 1) := by decide +kernel
theorem dX12_about_72 : decode cX12_about 72 = .ok (.getfield 121, 3) := by decide +kernel
theorem dX12_about_75 : decode cX12_about 75 = .ok (.iload_n 1, 1) := by decide +kernel
theorem dX12_about_76 : decode cX12_about 76 = .ok (.iaload, 1) := by decide +kernel
theorem dX12_about_77 : decode cX12_about 77 = .ok (.ireturn, 1) := by decide +kernel
theorem dX12_about_78 : decode cX12_about 78 = .ok (.aload_n 0, 1) := by decide +kernel
theorem dX12_about_79 : decode cX12_about 79 = .ok (.getfield 118, 3) := by decide +kernel
theorem dX12_about_82 : decode cX12_about 82 = .ok (.iload_n 1, 1) := by decide +kernel
theorem dX12_about_83 : decode cX12_about 83 = .ok (.baload, 1) := by decide +kernel
theorem dX12_about_84 : decode cX12_about 84 = .ok (.ifCond .eq 7, 3) := by decide +kernel
theorem dX12_about_87 : decode cX12_about 87 = .ok (.iconst 0, 1) := by decide +kernel
theorem dX12_about_88 : decode cX12_about 88 = .ok (.goto 16, 3) := by decide +kernel
theorem dX12_about_91 : decode cX12_about 91 = .ok (.aload_n 0, 1) := by decide +kernel
theorem dX12_about_92 : decode cX12_about 92 = .ok (.getfield 22, 3) := by decide +kernel
theorem dX12_about_95 : decode cX12_about 95 = .ok (.iload_n 1, 1) := by decide +kernel
theorem dX12_about_96 : decode cX12_about 96 = .ok (.iaload, 1) := by decide +kernel
theorem dX12_about_97 : decode cX12_about 97 = .ok (.aload_n 0, 1) := by decide +kernel
theorem dX12_about_98 : decode cX12_about 98 = .ok (.getfield 109, 3) := by decide +kernel
theorem dX12_about_101 : decode cX12_about 101 = .ok (.iload_n 1, 1) := by decide +kernel
theorem dX12_about_102 : decode cX12_about 102 = .ok (.iaload, 1) := by decide +kernel
theorem dX12_about_103 : decode cX12_about 103 = .ok (.isub, 1) := by decide +kernel
theorem dX12_about_104 : decode cX12_about 104 = .ok (.ireturn, 1) := by decide +kernel
theorem dX12_about_105 : decode cX12_about 105 = .ok (.aload_n 0, 1) := by decide +kernel
theorem dX12_about_106 : decode cX12_about 106 = .ok (.getfield 112, 3) := by decide +kernel
theorem dX12_about_109 : decode cX12_about 109 = .ok (.iload_n 1, 1) := by decide +kernel
theorem dX12_about_110 : decode cX12_about 110 = .ok (.iaload, 1) := by decide +kernel
theorem dX12_about_111 : decode cX12_about 111 = .ok (.ireturn, 1) := by decide +kernel
theorem dX12_about_112 : decode cX12_about 112 = .ok (.aload_n 0, 1) := by decide +kernel
theorem dX12_about_113 : decode cX12_about 113 = .ok (.getfield 115, 3) := by decide +kernel
theorem dX12_about_116 : decode cX12_about 116 = .ok (.iload_n 1, 1) := by decide +kernel
theorem dX12_about_117 : decode cX12_about 117 = .ok (.iaload, 1) := by decide +kernel
theorem dX12_about_118 : decode cX12_about 118 = .ok (.ireturn, 1) := by decide +kernel
theorem dX12_about_119 : decode cX12_about 119 = .ok (.aload_n 0, 1) := by decide +kernel
theorem dX12_about_120 : decode cX12_about 120 = .ok (.getfield 118, 3) := by decide +kernel
theorem dX12_about_123 : decode cX12_about 123 = .ok (.iload_n 1, 1) := by decide +kernel
theorem dX12_about_124 : decode cX12_about 124 = .ok (.baload, 1) := by decide +kernel
theorem dX12_about_125 : decode cX12_about 125 = .ok (.ifCond .eq 7, 3) := by decide +kernel
theorem dX12_about_128 : decode cX12_about 128 = .ok (.iconst 1, 1) := by decide +kernel
theorem dX12_about_129 : decode cX12_about 129 = .ok (.goto 4, 3) := by decide +kernel
theorem dX12_about_132 : decode cX12_about 132 = .ok (.iconst 0, 1) := by decide +kernel
theorem dX12_about_133 : decode cX12_about 133 = .ok (.ireturn, 1) := by decide +kernel
theorem dX12_about_134 : decode cX12_about 134 = .ok (.aload_n 0, 1) := by decide +kernel
theorem dX12_about_135 : decode cX12_about 135 = .ok (.getfield 124, 3) := by decide +kernel
theorem dX12_about_138 : decode cX12_about 138 = .ok (.iload_n 1, 1) := by decide +kernel
theorem dX12_about_139 : decode cX12_about 139 = .ok (.laload, 1) := by decide +kernel
theorem dX12_about_140 : decode cX12_about 140 = .ok (.l2i, 1) := by decide +kernel
theorem dX12_about_141 : decode cX12_about 141 = .ok (.ireturn, 1) := by decide +kernel
theorem dX12_about_142 : decode cX12_about 142 = .ok (.aload_n 0, 1) := by decide +kernel
theorem dX12_about_143 : decode cX12_about 143 = .ok (.iload_n 1, 1) := by decide +kernel
theorem dX12_about_144 : decode cX12_about 144 = .ok (.invokevirtual 335, 3) := by decide +kernel
theorem dX12_about_147 : decode cX12_about 147 = .ok (.ireturn, 1) := by decide +kernel
theorem dX12_about_148 : decode cX12_about 148 = .ok (.iconst (-1), 1) := by decide +kernel
theorem dX12_about_149 : decode cX12_about 149 = .ok (.ireturn, 1) := by decide +kernel
theorem dX12_read_0 : decode cX12_read 0 = .ok (.aload_n 0, 1) := by decide +kernel
theorem dX12_read_1 : decode cX12_read 1 = .ok (.aload_n 0, 1) := by decide +kernel
theorem dX12_read_2 : decode cX12_read 2 = .ok (.iload_n 1, 1) := by decide +kernel
theorem dX12_read_3 : decode cX12_read 3 = .ok (.invokevirtual 228, 3) := by decide +kernel
theorem dX12_read_6 : decode cX12_read 6 = .ok (.ifCond .eq 7, 3) := by decide +kernel
theorem dX12_read_9 : decode cX12_read 9 = .ok (.iconst 0, 1) := by decide +kernel
theorem dX12_read_10 : decode cX12_read 10 = .ok (.goto 4, 3) := by decide +kernel
theorem dX12_read_13 : decode cX12_read 13 = .ok (.iconst 1, 1) := by decide +kernel
theorem dX12_read_14 : decode cX12_read 14 = .ok (.putfield 194, 3) := by decide +kernel
theorem dX12_read_17 : decode cX12_read 17 = .ok (.aload_n 0, 1) := by decide +kernel
theorem dX12_read_18 : decode cX12_read 18 = .ok (.getfield 194, 3) := by decide +kernel
theorem dX12_read_21 : decode cX12_read 21 = .ok (.ifCond .le 7, 3) := by decide +kernel
theorem dX12_read_24 : decode cX12_read 24 = .ok (.iconst 0, 1) := by decide +kernel
theorem dX12_read_25 : decode cX12_read 25 = .ok (.goto 9, 3) := by decide +kernel
theorem dX12_read_28 : decode cX12_read 28 = .ok (.aload_n 0, 1) := by decide +kernel
theorem dX12_read_29 : decode cX12_read 29 = .ok (.getfield 127, 3) := by decide +kernel
theorem dX12_read_32 : decode cX12_read 32 = .ok (.iload_n 1, 1) := by decide +kernel
theorem dX12_read_33 : decode cX12_read 33 = .ok (.iaload, 1) := by decide +kernel
theorem dX12_read_34 : decode cX12_read 34 = .ok (.ireturn, 1) := by decide +kernel
theorem dX12_node_0 : decode cX12_node 0 = .ok (.aload_n 0, 1) := by decide +kernel
theorem dX12_node_1 : decode cX12_node 1 = .ok (.iconst 0, 1) := by decide +kernel
theorem dX12_node_2 : decode cX12_node 2 = .ok (.putfield 194, 3) := by decide +kernel
theorem dX12_node_5 : decode cX12_node 5 = .ok (.aload_n 0, 1) := by decide +kernel
theorem dX12_node_6 : decode cX12_node 6 = .ok (.iload_n 1, 1) := by decide +kernel
theorem dX12_node_7 : decode cX12_node 7 = .ok (.invokevirtual 204, 3) := by decide +kernel
theorem dX12_node_10 : decode cX12_node 10 = .ok (.ifCond .eq 15, 3) := by decide +kernel
theorem dX12_node_13 : decode cX12_node 13 = .ok (.iload_n 2, 1) := by decide +kernel
theorem dX12_node_14 : decode cX12_node 14 = .ok (.i2l, 1) := by decide +kernel
theorem dX12_node_15 : decode cX12_node 15 = .ok (.lconst 0, 1) := by decide +kernel
theorem dX12_node_16 : decode cX12_node 16 = .ok (.ldc2_w 226, 3) := by decide +kernel
theorem dX12_node_19 : decode cX12_node 19 = .ok (.invokestatic 214, 3) := by decide +kernel
theorem dX12_node_22 : decode cX12_node 22 = .ok (.ifCond .ne 5, 3) := by decide +kernel
theorem dX12_node_25 : decode cX12_node 25 = .ok (.iconst (-1), 1) := by decide +kernel
theorem dX12_node_26 : decode cX12_node 26 = .ok (.ireturn, 1) := by decide +kernel
theorem dX12_node_27 : decode cX12_node 27 = .ok (.iconst 0, 1) := by decide +kernel
theorem dX12_node_28 : decode cX12_node 28 = .ok (.istore_n 3, 1) := by decide +kernel
theorem dX12_node_29 : decode cX12_node 29 = .ok (.iconst 0, 1) := by decide +kernel
theorem dX12_node_30 : decode cX12_node 30 = .ok (.istore 4, 2) := by decide +kernel
theorem dX12_node_32 : decode cX12_node 32 = .ok (.iload 4, 2) := by decide +kernel
theorem dX12_node_34 : decode cX12_node 34 = .ok (.aload_n 0, 1) := by decide +kernel
theorem dX12_node_35 : decode cX12_node 35 = .ok (.getfield 200, 3) := by decide +kernel
theorem dX12_node_38 : decode cX12_node 38 = .ok (.if_icmp .ge 28, 3) := by decide +kernel
theorem dX12_node_41 : decode cX12_node 41 = .ok (.iload_n 3, 1) := by decide +kernel
theorem dX12_node_42 : decode cX12_node 42 = .ok (.aload_n 0, 1) := by decide +kernel
theorem dX12_node_43 : decode cX12_node 43 = .ok (.getfield 103, 3) := by decide +kernel
theorem dX12_node_46 : decode cX12_node 46 = .ok (.iload 4, 2) := by decide +kernel
theorem dX12_node_48 : decode cX12_node 48 = .ok (.iaload, 1) := by decide +kernel
theorem dX12_node_49 : decode cX12_node 49 = .ok (.iload_n 1, 1) := by decide +kernel
theorem dX12_node_50 : decode cX12_node 50 = .ok (.if_icmp .ne 7, 3) := by decide +kernel
theorem dX12_node_53 : decode cX12_node 53 = .ok (.iconst 1, 1) := by decide +kernel
theorem dX12_node_54 : decode cX12_node 54 = .ok (.goto 4, 3) := by decide +kernel
theorem dX12_node_57 : decode cX12_node 57 = .ok (.iconst 0, 1) := by decide +kernel
theorem dX12_node_58 : decode cX12_node 58 = .ok (.iadd, 1) := by decide +kernel
theorem dX12_node_59 : decode cX12_node 59 = .ok (.istore_n 3, 1) := by decide +kernel
theorem dX12_node_60 : decode cX12_node 60 = .ok (.iinc 4 1, 3) := by decide +kernel
theorem dX12_node_63 : decode cX12_node 63 = .ok (.goto (-31), 3) := by decide +kernel
theorem dX12_node_66 : decode cX12_node 66 = .ok (.iload_n 2, 1) := by decide +kernel
theorem dX12_node_67 : decode cX12_node 67 = .ok (.ifCond .ne 11, 3) := by decide +kernel
theorem dX12_node_70 : decode cX12_node 70 = .ok (.aload_n 0, 1) := by decide +kernel
theorem dX12_node_71 : decode cX12_node 71 = .ok (.iload_n 1, 1) := by decide +kernel
theorem dX12_node_72 : decode cX12_node 72 = .ok (.invokevirtual 246, 3) := by decide +kernel
theorem dX12_node_75 : decode cX12_node 75 = .ok (.goto 37, 3) := by decide +kernel
theorem dX12_node_78 : decode cX12_node 78 = .ok (.iload_n 2, 1) := by decide +kernel
theorem dX12_node_79 : decode cX12_node 79 = .ok (.iconst 1, 1) := by decide +kernel
theorem dX12_node_80 : decode cX12_node 80 = .ok (.if_icmp .ne 13, 3) := by decide +kernel
theorem dX12_node_83 : decode cX12_node 83 = .ok (.aload_n 0, 1) := by decide +kernel
theorem dX12_node_84 : decode cX12_node 84 = .ok (.getfield 133, 3) := by decide +kernel
theorem dX12_node_87 : decode cX12_node 87 = .ok (.iload_n 1, 1) := by decide +kernel
theorem dX12_node_88 : decode cX12_node 88 = .ok (.laload, 1) := by decide +kernel
theorem dX12_node_89 : decode cX12_node 89 = .ok (.l2i, 1) := by decide +kernel
theorem dX12_node_90 : decode cX12_node 90 = .ok (.goto 22, 3) := by decide +kernel
theorem dX12_node_93 : decode cX12_node 93 = .ok (.iload_n 2, 1) := by decide +kernel
theorem dX12_node_94 : decode cX12_node 94 = .ok (.iconst 2, 1) := by decide +kernel
theorem dX12_node_95 : decode cX12_node 95 = .ok (.if_icmp .ne 16, 3) := by decide +kernel
theorem dX12_node_98 : decode cX12_node 98 = .ok (.aload_n 0, 1) := by decide +kernel
theorem dX12_node_99 : decode cX12_node 99 = .ok (.getfield 185, 3) := by decide +kernel
theorem dX12_node_102 : decode cX12_node 102 = .ok (.aload_n 0, 1) := by decide +kernel
theorem dX12_node_103 : decode cX12_node 103 = .ok (.iload_n 1, 1) := by decide +kernel
theorem dX12_node_104 : decode cX12_node 104 = .ok (.invokevirtual 321, 3) := by decide +kernel
theorem dX12_node_107 : decode cX12_node 107 = .ok (.isub, 1) := by decide +kernel
theorem dX12_node_108 : decode cX12_node 108 = .ok (.goto 4, 3) := by decide +kernel
theorem dX12_node_111 : decode cX12_node 111 = .ok (.iload_n 3, 1) := by decide +kernel
theorem dX12_node_112 : decode cX12_node 112 = .ok (.ireturn, 1) := by decide +kernel
theorem dX12_linked_0 : decode cX12_linked 0 = .ok (.aload_n 0, 1) := by decide +kernel
theorem dX12_linked_1 : decode cX12_linked 1 = .ok (.iconst 0, 1) := by decide +kernel
theorem dX12_linked_2 : decode cX12_linked 2 = .ok (.putfield 194, 3) := by decide +kernel
theorem dX12_linked_5 : decode cX12_linked 5 = .ok (.aload_n 0, 1) := by decide +kernel
theorem dX12_linked_6 : decode cX12_linked 6 = .ok (.iload_n 1, 1) := by decide +kernel
theorem dX12_linked_7 : decode cX12_linked 7 = .ok (.iload_n 2, 1) := by decide +kernel
theorem dX12_linked_8 : decode cX12_linked 8 = .ok (.invokevirtual 208, 3) := by decide +kernel
theorem dX12_linked_11 : decode cX12_linked 11 = .ok (.ifCond .eq 15, 3) := by decide +kernel
theorem dX12_linked_14 : decode cX12_linked 14 = .ok (.iload_n 3, 1) := by decide +kernel
theorem dX12_linked_15 : decode cX12_linked 15 = .ok (.i2l, 1) := by decide +kernel
theorem dX12_linked_16 : decode cX12_linked 16 = .ok (.lconst 0, 1) := by decide +kernel
theorem dX12_linked_17 : decode cX12_linked 17 = .ok (.ldc2_w 226, 3) := by decide +kernel
theorem dX12_linked_20 : decode cX12_linked 20 = .ok (.invokestatic 214, 3) := by decide +kernel
theorem dX12_linked_23 : decode cX12_linked 23 = .ok (.ifCond .ne 5, 3) := by decide +kernel
theorem dX12_linked_26 : decode cX12_linked 26 = .ok (.iconst (-1), 1) := by decide +kernel
theorem dX12_linked_27 : decode cX12_linked 27 = .ok (.ireturn, 1) := by decide +kernel
theorem dX12_linked_28 : decode cX12_linked 28 = .ok (.iload_n 1, 1) := by decide +kernel
theorem dX12_linked_29 : decode cX12_linked 29 = .ok (.iload_n 2, 1) := by decide +kernel
theorem dX12_linked_30 : decode cX12_linked 30 = .ok (.if_icmp .ge 11, 3) := by decide +kernel
theorem dX12_linked_33 : decode cX12_linked 33 = .ok (.iconst 4, 1) := by decide +kernel
theorem dX12_linked_34 : decode cX12_linked 34 = .ok (.iload_n 1, 1) := by decide +kernel
theorem dX12_linked_35 : decode cX12_linked 35 = .ok (.imul, 1) := by decide +kernel
theorem dX12_linked_36 : decode cX12_linked 36 = .ok (.iload_n 2, 1) := by decide +kernel
theorem dX12_linked_37 : decode cX12_linked 37 = .ok (.iadd, 1) := by decide +kernel
theorem dX12_linked_38 : decode cX12_linked 38 = .ok (.goto 8, 3) := by decide +kernel
theorem dX12_linked_41 : decode cX12_linked 41 = .ok (.iconst 4, 1) := by decide +kernel
theorem dX12_linked_42 : decode cX12_linked 42 = .ok (.iload_n 2, 1) := by decide +kernel
theorem dX12_linked_43 : decode cX12_linked 43 = .ok (.imul, 1) := by decide +kernel
theorem dX12_linked_44 : decode cX12_linked 44 = .ok (.iload_n 1, 1) := by decide +kernel
theorem dX12_linked_45 : decode cX12_linked 45 = .ok (.iadd, 1) := by decide +kernel
theorem dX12_linked_46 : decode cX12_linked 46 = .ok (.istore 4, 2) := by decide +kernel
theorem dX12_linked_48 : decode cX12_linked 48 = .ok (.iload_n 3, 1) := by decide +kernel
theorem dX12_linked_49 : decode cX12_linked 49 = .ok (.ifCond .ne 13, 3) := by decide +kernel
theorem dX12_linked_52 : decode cX12_linked 52 = .ok (.aload_n 0, 1) := by decide +kernel
theorem dX12_linked_53 : decode cX12_linked 53 = .ok (.getfield 7, 3) := by decide +kernel
theorem dX12_linked_56 : decode cX12_linked 56 = .ok (.iload 4, 2) := by decide +kernel
theorem dX12_linked_58 : decode cX12_linked 58 = .ok (.iaload, 1) := by decide +kernel
theorem dX12_linked_59 : decode cX12_linked 59 = .ok (.goto 40, 3) := by decide +kernel
theorem dX12_linked_62 : decode cX12_linked 62 = .ok (.iload_n 3, 1) := by decide +kernel
theorem dX12_linked_63 : decode cX12_linked 63 = .ok (.iconst 1, 1) := by decide +kernel
theorem dX12_linked_64 : decode cX12_linked 64 = .ok (.if_icmp .ne 13, 3) := by decide +kernel
theorem dX12_linked_67 : decode cX12_linked 67 = .ok (.aload_n 0, 1) := by decide +kernel
theorem dX12_linked_68 : decode cX12_linked 68 = .ok (.getfield 13, 3) := by decide +kernel
theorem dX12_linked_71 : decode cX12_linked 71 = .ok (.iload 4, 2) := by decide +kernel
theorem dX12_linked_73 : decode cX12_linked 73 = .ok (.iaload, 1) := by decide +kernel
theorem dX12_linked_74 : decode cX12_linked 74 = .ok (.goto 25, 3) := by decide +kernel
theorem dX12_linked_77 : decode cX12_linked 77 = .ok (.iload_n 3, 1) := by decide +kernel
theorem dX12_linked_78 : decode cX12_linked 78 = .ok (.iconst 2, 1) := by decide +kernel
theorem dX12_linked_79 : decode cX12_linked 79 = .ok (.if_icmp .ne 13, 3) := by decide +kernel
theorem dX12_linked_82 : decode cX12_linked 82 = .ok (.aload_n 0, 1) := by decide +kernel
theorem dX12_linked_83 : decode cX12_linked 83 = .ok (.getfield 139, 3) := by decide +kernel
theorem dX12_linked_86 : decode cX12_linked 86 = .ok (.iload 4, 2) := by decide +kernel
theorem dX12_linked_88 : decode cX12_linked 88 = .ok (.iaload, 1) := by decide +kernel
theorem dX12_linked_89 : decode cX12_linked 89 = .ok (.goto 10, 3) := by decide +kernel
theorem dX12_linked_92 : decode cX12_linked 92 = .ok (.aload_n 0, 1) := by decide +kernel
theorem dX12_linked_93 : decode cX12_linked 93 = .ok (.getfield 142, 3) := by decide +kernel
theorem dX12_linked_96 : decode cX12_linked 96 = .ok (.iload 4, 2) := by decide +kernel
theorem dX12_linked_98 : decode cX12_linked 98 = .ok (.iaload, 1) := by decide +kernel
theorem dX12_linked_99 : decode cX12_linked 99 = .ok (.ireturn, 1) := by decide +kernel
theorem dX12_log_0 : decode cX12_log 0 = .ok (.aload_n 0, 1) := by decide +kernel
theorem dX12_log_1 : decode cX12_log 1 = .ok (.iconst 0, 1) := by decide +kernel
theorem dX12_log_2 : decode cX12_log 2 = .ok (.putfield 194, 3) := by decide +kernel
theorem dX12_log_5 : decode cX12_log 5 = .ok (.iload_n 1, 1) := by decide +kernel
theorem dX12_log_6 : decode cX12_log 6 = .ok (.ifCond .lt 23, 3) := by decide +kernel
theorem dX12_log_9 : decode cX12_log 9 = .ok (.iload_n 1, 1) := by decide +kernel
theorem dX12_log_10 : decode cX12_log 10 = .ok (.aload_n 0, 1) := by decide +kernel
theorem dX12_log_11 : decode cX12_log 11 = .ok (.getfield 284, 3) := by decide +kernel
theorem dX12_log_14 : decode cX12_log 14 = .ok (.if_icmp .ge 15, 3) := by decide +kernel
theorem dX12_log_17 : decode cX12_log 17 = .ok (.iload_n 2, 1) := by decide +kernel
theorem dX12_log_18 : decode cX12_log 18 = .ok (.i2l, 1) := by decide +kernel
theorem dX12_log_19 : decode cX12_log 19 = .ok (.lconst 0, 1) := by decide +kernel
theorem dX12_log_20 : decode cX12_log 20 = .ok (.ldc2_w 212, 3) := by decide +kernel
theorem dX12_log_23 : decode cX12_log 23 = .ok (.invokestatic 214, 3) := by decide +kernel
theorem dX12_log_26 : decode cX12_log 26 = .ok (.ifCond .ne 7, 3) := by decide +kernel
theorem dX12_log_29 : decode cX12_log 29 = .ok (.iconst (-1), 1) := by decide +kernel
theorem dX12_log_30 : decode cX12_log 30 = .ok (.goto 14, 3) := by decide +kernel
theorem dX12_log_33 : decode cX12_log 33 = .ok (.aload_n 0, 1) := by decide +kernel
theorem dX12_log_34 : decode cX12_log 34 = .ok (.getfield 145, 3) := by decide +kernel
theorem dX12_log_37 : decode cX12_log 37 = .ok (.bipush 10, 2) := by decide +kernel
theorem dX12_log_39 : decode cX12_log 39 = .ok (.iload_n 1, 1) := by decide +kernel
theorem dX12_log_40 : decode cX12_log 40 = .ok (.imul, 1) := by decide +kernel
theorem dX12_log_41 : decode cX12_log 41 = .ok (.iload_n 2, 1) := by decide +kernel
theorem dX12_log_42 : decode cX12_log 42 = .ok (.iadd, 1) := by decide +kernel
theorem dX12_log_43 : decode cX12_log 43 = .ok (.iaload, 1) := by decide +kernel
theorem dX12_log_44 : decode cX12_log 44 = .ok (.ireturn, 1) := by decide +kernel
theorem dX12_best_0 : decode cX12_best 0 = .ok (.aload_n 0, 1) := by decide +kernel
theorem dX12_best_1 : decode cX12_best 1 = .ok (.iconst 0, 1) := by decide +kernel
theorem dX12_best_2 : decode cX12_best 2 = .ok (.putfield 194, 3) := by decide +kernel
theorem dX12_best_5 : decode cX12_best 5 = .ok (.aload_n 0, 1) := by decide +kernel
theorem dX12_best_6 : decode cX12_best 6 = .ok (.iload_n 1, 1) := by decide +kernel
theorem dX12_best_7 : decode cX12_best 7 = .ok (.invokevirtual 253, 3) := by decide +kernel
theorem dX12_best_10 : decode cX12_best 10 = .ok (.ifCond .ne 5, 3) := by decide +kernel
theorem dX12_best_13 : decode cX12_best 13 = .ok (.iconst (-1), 1) := by decide +kernel
theorem dX12_best_14 : decode cX12_best 14 = .ok (.ireturn, 1) := by decide +kernel
theorem dX12_best_15 : decode cX12_best 15 = .ok (.iconst 0, 1) := by decide +kernel
theorem dX12_best_16 : decode cX12_best 16 = .ok (.istore_n 2, 1) := by decide +kernel
theorem dX12_best_17 : decode cX12_best 17 = .ok (.iload_n 2, 1) := by decide +kernel
theorem dX12_best_18 : decode cX12_best 18 = .ok (.aload_n 0, 1) := by decide +kernel
theorem dX12_best_19 : decode cX12_best 19 = .ok (.getfield 182, 3) := by decide +kernel
theorem dX12_best_22 : decode cX12_best 22 = .ok (.if_icmp .ge 16, 3) := by decide +kernel
theorem dX12_best_25 : decode cX12_best 25 = .ok (.aload_n 0, 1) := by decide +kernel
theorem dX12_best_26 : decode cX12_best 26 = .ok (.getfield 151, 3) := by decide +kernel
theorem dX12_best_29 : decode cX12_best 29 = .ok (.iload_n 2, 1) := by decide +kernel
theorem dX12_best_30 : decode cX12_best 30 = .ok (.lconst 0, 1) := by decide +kernel
theorem dX12_best_31 : decode cX12_best 31 = .ok (.lastore, 1) := by decide +kernel
theorem dX12_best_32 : decode cX12_best 32 = .ok (.iinc 2 1, 3) := by decide +kernel
theorem dX12_best_35 : decode cX12_best 35 = .ok (.goto (-18), 3) := by decide +kernel
theorem dX12_best_38 : decode cX12_best 38 = .ok (.iconst 0, 1) := by decide +kernel
theorem dX12_best_39 : decode cX12_best 39 = .ok (.istore_n 2, 1) := by decide +kernel
theorem dX12_best_40 : decode cX12_best 40 = .ok (.iload_n 2, 1) := by decide +kernel
theorem dX12_best_41 : decode cX12_best 41 = .ok (.aload_n 0, 1) := by decide +kernel
theorem dX12_best_42 : decode cX12_best 42 = .ok (.getfield 284, 3) := by decide +kernel
theorem dX12_best_45 : decode cX12_best 45 = .ok (.if_icmp .ge 241, 3) := by decide +kernel
theorem dX12_best_48 : decode cX12_best 48 = .ok (.aload_n 0, 1) := by decide +kernel
theorem dX12_best_49 : decode cX12_best 49 = .ok (.getfield 145, 3) := by decide +kernel
theorem dX12_best_52 : decode cX12_best 52 = .ok (.bipush 10, 2) := by decide +kernel
theorem dX12_best_54 : decode cX12_best 54 = .ok (.iload_n 2, 1) := by decide +kernel
theorem dX12_best_55 : decode cX12_best 55 = .ok (.imul, 1) := by decide +kernel
theorem dX12_best_56 : decode cX12_best 56 = .ok (.iconst 3, 1) := by decide +kernel
theorem dX12_best_57 : decode cX12_best 57 = .ok (.iadd, 1) := by decide +kernel
theorem dX12_best_58 : decode cX12_best 58 = .ok (.iaload, 1) := by decide +kernel
theorem dX12_best_59 : decode cX12_best 59 = .ok (.iload_n 1, 1) := by decide +kernel
theorem dX12_best_60 : decode cX12_best 60 = .ok (.if_icmp .eq 6, 3) := by decide +kernel
theorem dX12_best_63 : decode cX12_best 63 = .ok (.goto 217, 3) := by decide +kernel
theorem dX12_best_66 : decode cX12_best 66 = .ok (.ldc2_w 338, 3) := by decide +kernel
theorem dX12_best_69 : decode cX12_best 69 = .ok (.lstore_n 3, 1) := by decide +kernel
theorem dX12_best_70 : decode cX12_best 70 = .ok (.iconst 0, 1) := by decide +kernel
theorem dX12_best_71 : decode cX12_best 71 = .ok (.istore 5, 2) := by decide +kernel
theorem dX12_best_73 : decode cX12_best 73 = .ok (.iload 5, 2) := by decide +kernel
theorem dX12_best_75 : decode cX12_best 75 = .ok (.aload_n 0, 1) := by decide +kernel
theorem dX12_best_76 : decode cX12_best 76 = .ok (.getfield 182, 3) := by decide +kernel
theorem dX12_best_79 : decode cX12_best 79 = .ok (.if_icmp .ge 33, 3) := by decide +kernel
theorem dX12_best_82 : decode cX12_best 82 = .ok (.aload_n 0, 1) := by decide +kernel
theorem dX12_best_83 : decode cX12_best 83 = .ok (.getfield 151, 3) := by decide +kernel
theorem dX12_best_86 : decode cX12_best 86 = .ok (.iload 5, 2) := by decide +kernel
theorem dX12_best_88 : decode cX12_best 88 = .ok (.laload, 1) := by decide +kernel
theorem dX12_best_89 : decode cX12_best 89 = .ok (.lload_n 3, 1) := by decide +kernel
theorem dX12_best_90 : decode cX12_best 90 = .ok (.lcmp, 1) := by decide +kernel
theorem dX12_best_91 : decode cX12_best 91 = .ok (.ifCond .ge 13, 3) := by decide +kernel
theorem dX12_best_94 : decode cX12_best 94 = .ok (.aload_n 0, 1) := by decide +kernel
theorem dX12_best_95 : decode cX12_best 95 = .ok (.getfield 151, 3) := by decide +kernel
theorem dX12_best_98 : decode cX12_best 98 = .ok (.iload 5, 2) := by decide +kernel
theorem dX12_best_100 : decode cX12_best 100 = .ok (.laload, 1) := by decide +kernel
theorem dX12_best_101 : decode cX12_best 101 = .ok (.goto 4, 3) := by decide +kernel
theorem dX12_best_104 : decode cX12_best 104 = .ok (.lload_n 3, 1) := by decide +kernel
theorem dX12_best_105 : decode cX12_best 105 = .ok (.lstore_n 3, 1) := by decide +kernel
theorem dX12_best_106 : decode cX12_best 106 = .ok (.iinc 5 1, 3) := by decide +kernel
theorem dX12_best_109 : decode cX12_best 109 = .ok (.goto (-36), 3) := by decide +kernel
theorem dX12_best_112 : decode cX12_best 112 = .ok (.iconst 0, 1) := by decide +kernel
theorem dX12_best_113 : decode cX12_best 113 = .ok (.istore 5, 2) := by decide +kernel
theorem dX12_best_115 : decode cX12_best 115 = .ok (.iload 5, 2) := by decide +kernel
theorem dX12_best_117 : decode cX12_best 117 = .ok (.aload_n 0, 1) := by decide +kernel
theorem dX12_best_118 : decode cX12_best 118 = .ok (.getfield 182, 3) := by decide +kernel
theorem dX12_best_121 : decode cX12_best 121 = .ok (.if_icmp .ge 127, 3) := by decide +kernel
theorem dX12_best_124 : decode cX12_best 124 = .ok (.aload_n 0, 1) := by decide +kernel
theorem dX12_best_125 : decode cX12_best 125 = .ok (.aload_n 0, 1) := by decide +kernel
theorem dX12_best_126 : decode cX12_best 126 = .ok (.getfield 145, 3) := by decide +kernel
theorem dX12_best_129 : decode cX12_best 129 = .ok (.bipush 10, 2) := by decide +kernel
theorem dX12_best_131 : decode cX12_best 131 = .ok (.iload_n 2, 1) := by decide +kernel
theorem dX12_best_132 : decode cX12_best 132 = .ok (.imul, 1) := by decide +kernel
theorem dX12_best_133 : decode cX12_best 133 = .ok (.iconst 2, 1) := by decide +kernel
theorem dX12_best_134 : decode cX12_best 134 = .ok (.iadd, 1) := by decide +kernel
theorem dX12_best_135 : decode cX12_best 135 = .ok (.iaload, 1) := by decide +kernel
theorem dX12_best_136 : decode cX12_best 136 = .ok (.iload 5, 2) := by decide +kernel
theorem dX12_best_138 : decode cX12_best 138 = .ok (.invokevirtual 220, 3) := by decide +kernel
theorem dX12_best_141 : decode cX12_best 141 = .ok (.istore 6, 2) := by decide +kernel
theorem dX12_best_143 : decode cX12_best 143 = .ok (.aload_n 0, 1) := by decide +kernel
theorem dX12_best_144 : decode cX12_best 144 = .ok (.getfield 151, 3) := by decide +kernel
theorem dX12_best_147 : decode cX12_best 147 = .ok (.iload 5, 2) := by decide +kernel
theorem dX12_best_149 : decode cX12_best 149 = .ok (.laload, 1) := by decide +kernel
theorem dX12_best_150 : decode cX12_best 150 = .ok (.lload_n 3, 1) := by decide +kernel
theorem dX12_best_151 : decode cX12_best 151 = .ok (.aload_n 0, 1) := by decide +kernel
theorem dX12_best_152 : decode cX12_best 152 = .ok (.getfield 42, 3) := by decide +kernel
theorem dX12_best_155 : decode cX12_best 155 = .ok (.i2l, 1) := by decide +kernel
theorem dX12_best_156 : decode cX12_best 156 = .ok (.ladd, 1) := by decide +kernel
theorem dX12_best_157 : decode cX12_best 157 = .ok (.lcmp, 1) := by decide +kernel
theorem dX12_best_158 : decode cX12_best 158 = .ok (.ifCond .ge 13, 3) := by decide +kernel
theorem dX12_best_161 : decode cX12_best 161 = .ok (.aload_n 0, 1) := by decide +kernel
theorem dX12_best_162 : decode cX12_best 162 = .ok (.getfield 151, 3) := by decide +kernel
theorem dX12_best_165 : decode cX12_best 165 = .ok (.iload 5, 2) := by decide +kernel
theorem dX12_best_167 : decode cX12_best 167 = .ok (.laload, 1) := by decide +kernel
theorem dX12_best_168 : decode cX12_best 168 = .ok (.goto 10, 3) := by decide +kernel
theorem dX12_best_171 : decode cX12_best 171 = .ok (.lload_n 3, 1) := by decide +kernel
theorem dX12_best_172 : decode cX12_best 172 = .ok (.aload_n 0, 1) := by decide +kernel
theorem dX12_best_173 : decode cX12_best 173 = .ok (.getfield 42, 3) := by decide +kernel
theorem dX12_best_176 : decode cX12_best 176 = .ok (.i2l, 1) := by decide +kernel
theorem dX12_best_177 : decode cX12_best 177 = .ok (.ladd, 1) := by decide +kernel
theorem dX12_best_178 : decode cX12_best 178 = .ok (.lstore 7, 2) := by decide +kernel
theorem dX12_best_180 : decode cX12_best 180 = .ok (.lload 7, 2) := by decide +kernel
theorem dX12_best_182 : decode cX12_best 182 = .ok (.lconst 1, 1) := by decide +kernel
theorem dX12_best_183 : decode cX12_best 183 = .ok (.ladd, 1) := by decide +kernel
theorem dX12_best_184 : decode cX12_best 184 = .ok (.ldc2_w 235, 3) := by decide +kernel
theorem dX12_best_187 : decode cX12_best 187 = .ok (.aload_n 0, 1) := by decide +kernel
theorem dX12_best_188 : decode cX12_best 188 = .ok (.getfield 16, 3) := by decide +kernel
theorem dX12_best_191 : decode cX12_best 191 = .ok (.iconst 4, 1) := by decide +kernel
theorem dX12_best_192 : decode cX12_best 192 = .ok (.aload_n 0, 1) := by decide +kernel
theorem dX12_best_193 : decode cX12_best 193 = .ok (.getfield 145, 3) := by decide +kernel
theorem dX12_best_196 : decode cX12_best 196 = .ok (.bipush 10, 2) := by decide +kernel
theorem dX12_best_198 : decode cX12_best 198 = .ok (.iload_n 2, 1) := by decide +kernel
theorem dX12_best_199 : decode cX12_best 199 = .ok (.imul, 1) := by decide +kernel
theorem dX12_best_200 : decode cX12_best 200 = .ok (.iconst 2, 1) := by decide +kernel
theorem dX12_best_201 : decode cX12_best 201 = .ok (.iadd, 1) := by decide +kernel
theorem dX12_best_202 : decode cX12_best 202 = .ok (.iaload, 1) := by decide +kernel
theorem dX12_best_203 : decode cX12_best 203 = .ok (.imul, 1) := by decide +kernel
theorem dX12_best_204 : decode cX12_best 204 = .ok (.iload 5, 2) := by decide +kernel
theorem dX12_best_206 : decode cX12_best 206 = .ok (.iadd, 1) := by decide +kernel
theorem dX12_best_207 : decode cX12_best 207 = .ok (.iaload, 1) := by decide +kernel
theorem dX12_best_208 : decode cX12_best 208 = .ok (.i2l, 1) := by decide +kernel
theorem dX12_best_209 : decode cX12_best 209 = .ok (.lmul, 1) := by decide +kernel
theorem dX12_best_210 : decode cX12_best 210 = .ok (.ladd, 1) := by decide +kernel
theorem dX12_best_211 : decode cX12_best 211 = .ok (.lstore 9, 2) := by decide +kernel
theorem dX12_best_213 : decode cX12_best 213 = .ok (.aload_n 0, 1) := by decide +kernel
theorem dX12_best_214 : decode cX12_best 214 = .ok (.getfield 154, 3) := by decide +kernel
theorem dX12_best_217 : decode cX12_best 217 = .ok (.iload 5, 2) := by decide +kernel
theorem dX12_best_219 : decode cX12_best 219 = .ok (.iload 6, 2) := by decide +kernel
theorem dX12_best_221 : decode cX12_best 221 = .ok (.ifCond .eq 17, 3) := by decide +kernel
theorem dX12_best_224 : decode cX12_best 224 = .ok (.lload 9, 2) := by decide +kernel
theorem dX12_best_226 : decode cX12_best 226 = .ok (.ldc2_w 338, 3) := by decide +kernel
theorem dX12_best_229 : decode cX12_best 229 = .ok (.lcmp, 1) := by decide +kernel
theorem dX12_best_230 : decode cX12_best 230 = .ok (.ifCond .ge 8, 3) := by decide +kernel
theorem dX12_best_233 : decode cX12_best 233 = .ok (.lload 9, 2) := by decide +kernel
theorem dX12_best_235 : decode cX12_best 235 = .ok (.goto 6, 3) := by decide +kernel
theorem dX12_best_238 : decode cX12_best 238 = .ok (.ldc2_w 338, 3) := by decide +kernel
theorem dX12_best_241 : decode cX12_best 241 = .ok (.lastore, 1) := by decide +kernel
theorem dX12_best_242 : decode cX12_best 242 = .ok (.iinc 5 1, 3) := by decide +kernel
theorem dX12_best_245 : decode cX12_best 245 = .ok (.goto (-130), 3) := by decide +kernel
theorem dX12_best_248 : decode cX12_best 248 = .ok (.iconst 0, 1) := by decide +kernel
theorem dX12_best_249 : decode cX12_best 249 = .ok (.istore 5, 2) := by decide +kernel
theorem dX12_best_251 : decode cX12_best 251 = .ok (.iload 5, 2) := by decide +kernel
theorem dX12_best_253 : decode cX12_best 253 = .ok (.aload_n 0, 1) := by decide +kernel
theorem dX12_best_254 : decode cX12_best 254 = .ok (.getfield 182, 3) := by decide +kernel
theorem dX12_best_257 : decode cX12_best 257 = .ok (.if_icmp .ge 23, 3) := by decide +kernel
theorem dX12_best_260 : decode cX12_best 260 = .ok (.aload_n 0, 1) := by decide +kernel
theorem dX12_best_261 : decode cX12_best 261 = .ok (.getfield 151, 3) := by decide +kernel
theorem dX12_best_264 : decode cX12_best 264 = .ok (.iload 5, 2) := by decide +kernel
theorem dX12_best_266 : decode cX12_best 266 = .ok (.aload_n 0, 1) := by decide +kernel
theorem dX12_best_267 : decode cX12_best 267 = .ok (.getfield 154, 3) := by decide +kernel
theorem dX12_best_270 : decode cX12_best 270 = .ok (.iload 5, 2) := by decide +kernel
theorem dX12_best_272 : decode cX12_best 272 = .ok (.laload, 1) := by decide +kernel
theorem dX12_best_273 : decode cX12_best 273 = .ok (.lastore, 1) := by decide +kernel
theorem dX12_best_274 : decode cX12_best 274 = .ok (.iinc 5 1, 3) := by decide +kernel
theorem dX12_best_277 : decode cX12_best 277 = .ok (.goto (-26), 3) := by decide +kernel
theorem dX12_best_280 : decode cX12_best 280 = .ok (.iinc 2 1, 3) := by decide +kernel
theorem dX12_best_283 : decode cX12_best 283 = .ok (.goto (-243), 3) := by decide +kernel
theorem dX12_best_286 : decode cX12_best 286 = .ok (.ldc2_w 338, 3) := by decide +kernel
theorem dX12_best_289 : decode cX12_best 289 = .ok (.lstore_n 2, 1) := by decide +kernel
theorem dX12_best_290 : decode cX12_best 290 = .ok (.iconst 0, 1) := by decide +kernel
theorem dX12_best_291 : decode cX12_best 291 = .ok (.istore 4, 2) := by decide +kernel
theorem dX12_best_293 : decode cX12_best 293 = .ok (.iload 4, 2) := by decide +kernel
theorem dX12_best_295 : decode cX12_best 295 = .ok (.aload_n 0, 1) := by decide +kernel
theorem dX12_best_296 : decode cX12_best 296 = .ok (.getfield 182, 3) := by decide +kernel
theorem dX12_best_299 : decode cX12_best 299 = .ok (.if_icmp .ge 33, 3) := by decide +kernel
theorem dX12_best_302 : decode cX12_best 302 = .ok (.aload_n 0, 1) := by decide +kernel
theorem dX12_best_303 : decode cX12_best 303 = .ok (.getfield 151, 3) := by decide +kernel
theorem dX12_best_306 : decode cX12_best 306 = .ok (.iload 4, 2) := by decide +kernel
theorem dX12_best_308 : decode cX12_best 308 = .ok (.laload, 1) := by decide +kernel
theorem dX12_best_309 : decode cX12_best 309 = .ok (.lload_n 2, 1) := by decide +kernel
theorem dX12_best_310 : decode cX12_best 310 = .ok (.lcmp, 1) := by decide +kernel
theorem dX12_best_311 : decode cX12_best 311 = .ok (.ifCond .ge 13, 3) := by decide +kernel
theorem dX12_best_314 : decode cX12_best 314 = .ok (.aload_n 0, 1) := by decide +kernel
theorem dX12_best_315 : decode cX12_best 315 = .ok (.getfield 151, 3) := by decide +kernel
theorem dX12_best_318 : decode cX12_best 318 = .ok (.iload 4, 2) := by decide +kernel
theorem dX12_best_320 : decode cX12_best 320 = .ok (.laload, 1) := by decide +kernel
theorem dX12_best_321 : decode cX12_best 321 = .ok (.goto 4, 3) := by decide +kernel
theorem dX12_best_324 : decode cX12_best 324 = .ok (.lload_n 2, 1) := by decide +kernel
theorem dX12_best_325 : decode cX12_best 325 = .ok (.lstore_n 2, 1) := by decide +kernel
theorem dX12_best_326 : decode cX12_best 326 = .ok (.iinc 4 1, 3) := by decide +kernel
theorem dX12_best_329 : decode cX12_best 329 = .ok (.goto (-36), 3) := by decide +kernel
theorem dX12_best_332 : decode cX12_best 332 = .ok (.lload_n 2, 1) := by decide +kernel
theorem dX12_best_333 : decode cX12_best 333 = .ok (.ldc2_w 338, 3) := by decide +kernel
theorem dX12_best_336 : decode cX12_best 336 = .ok (.lcmp, 1) := by decide +kernel
theorem dX12_best_337 : decode cX12_best 337 = .ok (.ifCond .lt 8, 3) := by decide +kernel
theorem dX12_best_340 : decode cX12_best 340 = .ok (.bipush (-2), 2) := by decide +kernel
theorem dX12_best_342 : decode cX12_best 342 = .ok (.goto 5, 3) := by decide +kernel
theorem dX12_best_345 : decode cX12_best 345 = .ok (.lload_n 2, 1) := by decide +kernel
theorem dX12_best_346 : decode cX12_best 346 = .ok (.l2i, 1) := by decide +kernel
theorem dX12_best_347 : decode cX12_best 347 = .ok (.ireturn, 1) := by decide +kernel
theorem dX12_gap_0 : decode cX12_gap 0 = .ok (.aload_n 0, 1) := by decide +kernel
theorem dX12_gap_1 : decode cX12_gap 1 = .ok (.iconst 0, 1) := by decide +kernel
theorem dX12_gap_2 : decode cX12_gap 2 = .ok (.putfield 194, 3) := by decide +kernel
theorem dX12_gap_5 : decode cX12_gap 5 = .ok (.aload_n 0, 1) := by decide +kernel
theorem dX12_gap_6 : decode cX12_gap 6 = .ok (.iload_n 1, 1) := by decide +kernel
theorem dX12_gap_7 : decode cX12_gap 7 = .ok (.invokevirtual 253, 3) := by decide +kernel
theorem dX12_gap_10 : decode cX12_gap 10 = .ok (.ifCond .ne 5, 3) := by decide +kernel
theorem dX12_gap_13 : decode cX12_gap 13 = .ok (.iconst (-1), 1) := by decide +kernel
theorem dX12_gap_14 : decode cX12_gap 14 = .ok (.ireturn, 1) := by decide +kernel
theorem dX12_gap_15 : decode cX12_gap 15 = .ok (.iconst 0, 1) := by decide +kernel
theorem dX12_gap_16 : decode cX12_gap 16 = .ok (.istore_n 2, 1) := by decide +kernel
theorem dX12_gap_17 : decode cX12_gap 17 = .ok (.iconst 0, 1) := by decide +kernel
theorem dX12_gap_18 : decode cX12_gap 18 = .ok (.istore_n 3, 1) := by decide +kernel
theorem dX12_gap_19 : decode cX12_gap 19 = .ok (.iload_n 3, 1) := by decide +kernel
theorem dX12_gap_20 : decode cX12_gap 20 = .ok (.aload_n 0, 1) := by decide +kernel
theorem dX12_gap_21 : decode cX12_gap 21 = .ok (.getfield 284, 3) := by decide +kernel
theorem dX12_gap_24 : decode cX12_gap 24 = .ok (.if_icmp .ge 45, 3) := by decide +kernel
theorem dX12_gap_27 : decode cX12_gap 27 = .ok (.iload_n 2, 1) := by decide +kernel
theorem dX12_gap_28 : decode cX12_gap 28 = .ok (.aload_n 0, 1) := by decide +kernel
theorem dX12_gap_29 : decode cX12_gap 29 = .ok (.getfield 145, 3) := by decide +kernel
theorem dX12_gap_32 : decode cX12_gap 32 = .ok (.bipush 10, 2) := by decide +kernel
theorem dX12_gap_34 : decode cX12_gap 34 = .ok (.iload_n 3, 1) := by decide +kernel
theorem dX12_gap_35 : decode cX12_gap 35 = .ok (.imul, 1) := by decide +kernel
theorem dX12_gap_36 : decode cX12_gap 36 = .ok (.iconst 3, 1) := by decide +kernel
theorem dX12_gap_37 : decode cX12_gap 37 = .ok (.iadd, 1) := by decide +kernel
theorem dX12_gap_38 : decode cX12_gap 38 = .ok (.iaload, 1) := by decide +kernel
theorem dX12_gap_39 : decode cX12_gap 39 = .ok (.iload_n 1, 1) := by decide +kernel
theorem dX12_gap_40 : decode cX12_gap 40 = .ok (.if_icmp .ne 20, 3) := by decide +kernel
theorem dX12_gap_43 : decode cX12_gap 43 = .ok (.aload_n 0, 1) := by decide +kernel
theorem dX12_gap_44 : decode cX12_gap 44 = .ok (.getfield 145, 3) := by decide +kernel
theorem dX12_gap_47 : decode cX12_gap 47 = .ok (.bipush 10, 2) := by decide +kernel
theorem dX12_gap_49 : decode cX12_gap 49 = .ok (.iload_n 3, 1) := by decide +kernel
theorem dX12_gap_50 : decode cX12_gap 50 = .ok (.imul, 1) := by decide +kernel
theorem dX12_gap_51 : decode cX12_gap 51 = .ok (.bipush 7, 2) := by decide +kernel
theorem dX12_gap_53 : decode cX12_gap 53 = .ok (.iadd, 1) := by decide +kernel
theorem dX12_gap_54 : decode cX12_gap 54 = .ok (.iaload, 1) := by decide +kernel
theorem dX12_gap_55 : decode cX12_gap 55 = .ok (.iconst 1, 1) := by decide +kernel
theorem dX12_gap_56 : decode cX12_gap 56 = .ok (.isub, 1) := by decide +kernel
theorem dX12_gap_57 : decode cX12_gap 57 = .ok (.goto 4, 3) := by decide +kernel
theorem dX12_gap_60 : decode cX12_gap 60 = .ok (.iconst 0, 1) := by decide +kernel
theorem dX12_gap_61 : decode cX12_gap 61 = .ok (.iadd, 1) := by decide +kernel
theorem dX12_gap_62 : decode cX12_gap 62 = .ok (.istore_n 2, 1) := by decide +kernel
theorem dX12_gap_63 : decode cX12_gap 63 = .ok (.iinc 3 1, 3) := by decide +kernel
theorem dX12_gap_66 : decode cX12_gap 66 = .ok (.goto (-47), 3) := by decide +kernel
theorem dX12_gap_69 : decode cX12_gap 69 = .ok (.iload_n 2, 1) := by decide +kernel
theorem dX12_gap_70 : decode cX12_gap 70 = .ok (.ireturn, 1) := by decide +kernel
theorem dX12_beginOther_0 : decode cX12_beginOther 0 = .ok (.aload_n 0, 1) := by decide +kernel
theorem dX12_beginOther_1 : decode cX12_beginOther 1 = .ok (.iconst 1, 1) := by decide +kernel
theorem dX12_beginOther_2 : decode cX12_beginOther 2 = .ok (.putfield 243, 3) := by decide +kernel
theorem dX12_beginOther_5 : decode cX12_beginOther 5 = .ok (.aload_n 0, 1) := by decide +kernel
theorem dX12_beginOther_6 : decode cX12_beginOther 6 = .ok (.getfield 54, 3) := by decide +kernel
theorem dX12_beginOther_9 : decode cX12_beginOther 9 = .ok (.iconst 1, 1) := by decide +kernel
theorem dX12_beginOther_10 : decode cX12_beginOther 10 = .ok (.iconst 1, 1) := by decide +kernel
theorem dX12_beginOther_11 : decode cX12_beginOther 11 = .ok (.iastore, 1) := by decide +kernel
theorem dX12_beginOther_12 : decode cX12_beginOther 12 = .ok (.aload_n 0, 1) := by decide +kernel
theorem dX12_beginOther_13 : decode cX12_beginOther 13 = .ok (.getfield 57, 3) := by decide +kernel
theorem dX12_beginOther_16 : decode cX12_beginOther 16 = .ok (.iconst 1, 1) := by decide +kernel
theorem dX12_beginOther_17 : decode cX12_beginOther 17 = .ok (.iconst 0, 1) := by decide +kernel
theorem dX12_beginOther_18 : decode cX12_beginOther 18 = .ok (.iastore, 1) := by decide +kernel
theorem dX12_beginOther_19 : decode cX12_beginOther 19 = .ok (.aload_n 0, 1) := by decide +kernel
theorem dX12_beginOther_20 : decode cX12_beginOther 20 = .ok (.getfield 60, 3) := by decide +kernel
theorem dX12_beginOther_23 : decode cX12_beginOther 23 = .ok (.iconst 1, 1) := by decide +kernel
theorem dX12_beginOther_24 : decode cX12_beginOther 24 = .ok (.iconst 0, 1) := by decide +kernel
theorem dX12_beginOther_25 : decode cX12_beginOther 25 = .ok (.iastore, 1) := by decide +kernel
theorem dX12_beginOther_26 : decode cX12_beginOther 26 = .ok (.aload_n 0, 1) := by decide +kernel
theorem dX12_beginOther_27 : decode cX12_beginOther 27 = .ok (.getfield 63, 3) := by decide +kernel
theorem dX12_beginOther_30 : decode cX12_beginOther 30 = .ok (.iconst 1, 1) := by decide +kernel
theorem dX12_beginOther_31 : decode cX12_beginOther 31 = .ok (.lconst 0, 1) := by decide +kernel
theorem dX12_beginOther_32 : decode cX12_beginOther 32 = .ok (.lastore, 1) := by decide +kernel
theorem dX12_beginOther_33 : decode cX12_beginOther 33 = .ok (.aload_n 0, 1) := by decide +kernel
theorem dX12_beginOther_34 : decode cX12_beginOther 34 = .ok (.getfield 76, 3) := by decide +kernel
theorem dX12_beginOther_37 : decode cX12_beginOther 37 = .ok (.iconst 1, 1) := by decide +kernel
theorem dX12_beginOther_38 : decode cX12_beginOther 38 = .ok (.aload_n 0, 1) := by decide +kernel
theorem dX12_beginOther_39 : decode cX12_beginOther 39 = .ok (.getfield 200, 3) := by decide +kernel
theorem dX12_beginOther_42 : decode cX12_beginOther 42 = .ok (.iastore, 1) := by decide +kernel
theorem dX12_beginOther_43 : decode cX12_beginOther 43 = .ok (.iconst 0, 1) := by decide +kernel
theorem dX12_beginOther_44 : decode cX12_beginOther 44 = .ok (.istore_n 1, 1) := by decide +kernel
theorem dX12_beginOther_45 : decode cX12_beginOther 45 = .ok (.iload_n 1, 1) := by decide +kernel
theorem dX12_beginOther_46 : decode cX12_beginOther 46 = .ok (.bipush 20, 2) := by decide +kernel
theorem dX12_beginOther_48 : decode cX12_beginOther 48 = .ok (.if_icmp .ge 74, 3) := by decide +kernel
theorem dX12_beginOther_51 : decode cX12_beginOther 51 = .ok (.bipush 20, 2) := by decide +kernel
theorem dX12_beginOther_53 : decode cX12_beginOther 53 = .ok (.iload_n 1, 1) := by decide +kernel
theorem dX12_beginOther_54 : decode cX12_beginOther 54 = .ok (.iadd, 1) := by decide +kernel
theorem dX12_beginOther_55 : decode cX12_beginOther 55 = .ok (.istore_n 2, 1) := by decide +kernel
theorem dX12_beginOther_56 : decode cX12_beginOther 56 = .ok (.aload_n 0, 1) := by decide +kernel
theorem dX12_beginOther_57 : decode cX12_beginOther 57 = .ok (.getfield 79, 3) := by decide +kernel
theorem dX12_beginOther_60 : decode cX12_beginOther 60 = .ok (.iload_n 2, 1) := by decide +kernel
theorem dX12_beginOther_61 : decode cX12_beginOther 61 = .ok (.bipush (-2), 2) := by decide +kernel
theorem dX12_beginOther_63 : decode cX12_beginOther 63 = .ok (.iastore, 1) := by decide +kernel
theorem dX12_beginOther_64 : decode cX12_beginOther 64 = .ok (.aload_n 0, 1) := by decide +kernel
theorem dX12_beginOther_65 : decode cX12_beginOther 65 = .ok (.getfield 82, 3) := by decide +kernel
theorem dX12_beginOther_68 : decode cX12_beginOther 68 = .ok (.iload_n 2, 1) := by decide +kernel
theorem dX12_beginOther_69 : decode cX12_beginOther 69 = .ok (.iconst 0, 1) := by decide +kernel
theorem dX12_beginOther_70 : decode cX12_beginOther 70 = .ok (.iastore, 1) := by decide +kernel
theorem dX12_beginOther_71 : decode cX12_beginOther 71 = .ok (.aload_n 0, 1) := by decide +kernel
theorem dX12_beginOther_72 : decode cX12_beginOther 72 = .ok (.getfield 85, 3) := by decide +kernel
theorem dX12_beginOther_75 : decode cX12_beginOther 75 = .ok (.iload_n 2, 1) := by decide +kernel
theorem dX12_beginOther_76 : decode cX12_beginOther 76 = .ok (.iconst 0, 1) := by decide +kernel
theorem dX12_beginOther_77 : decode cX12_beginOther 77 = .ok (.bastore, 1) := by decide +kernel
theorem dX12_beginOther_78 : decode cX12_beginOther 78 = .ok (.aload_n 0, 1) := by decide +kernel
theorem dX12_beginOther_79 : decode cX12_beginOther 79 = .ok (.getfield 88, 3) := by decide +kernel
theorem dX12_beginOther_82 : decode cX12_beginOther 82 = .ok (.iload_n 2, 1) := by decide +kernel
theorem dX12_beginOther_83 : decode cX12_beginOther 83 = .ok (.iconst 0, 1) := by decide +kernel
theorem dX12_beginOther_84 : decode cX12_beginOther 84 = .ok (.iastore, 1) := by decide +kernel
theorem dX12_beginOther_85 : decode cX12_beginOther 85 = .ok (.aload_n 0, 1) := by decide +kernel
theorem dX12_beginOther_86 : decode cX12_beginOther 86 = .ok (.getfield 97, 3) := by decide +kernel
theorem dX12_beginOther_89 : decode cX12_beginOther 89 = .ok (.iload_n 2, 1) := by decide +kernel
theorem dX12_beginOther_90 : decode cX12_beginOther 90 = .ok (.lconst 0, 1) := by decide +kernel
theorem dX12_beginOther_91 : decode cX12_beginOther 91 = .ok (.lastore, 1) := by decide +kernel
theorem dX12_beginOther_92 : decode cX12_beginOther 92 = .ok (.iconst 0, 1) := by decide +kernel
theorem dX12_beginOther_93 : decode cX12_beginOther 93 = .ok (.istore_n 3, 1) := by decide +kernel
theorem dX12_beginOther_94 : decode cX12_beginOther 94 = .ok (.iload_n 3, 1) := by decide +kernel
theorem dX12_beginOther_95 : decode cX12_beginOther 95 = .ok (.iconst 4, 1) := by decide +kernel
theorem dX12_beginOther_96 : decode cX12_beginOther 96 = .ok (.if_icmp .ge 20, 3) := by decide +kernel
theorem dX12_beginOther_99 : decode cX12_beginOther 99 = .ok (.aload_n 0, 1) := by decide +kernel
theorem dX12_beginOther_100 : decode cX12_beginOther 100 = .ok (.getfield 100, 3) := by decide +kernel
theorem dX12_beginOther_103 : decode cX12_beginOther 103 = .ok (.iconst 4, 1) := by decide +kernel
theorem dX12_beginOther_104 : decode cX12_beginOther 104 = .ok (.iload_n 2, 1) := by decide +kernel
theorem dX12_beginOther_105 : decode cX12_beginOther 105 = .ok (.imul, 1) := by decide +kernel
theorem dX12_beginOther_106 : decode cX12_beginOther 106 = .ok (.iload_n 3, 1) := by decide +kernel
theorem dX12_beginOther_107 : decode cX12_beginOther 107 = .ok (.iadd, 1) := by decide +kernel
theorem dX12_beginOther_108 : decode cX12_beginOther 108 = .ok (.iconst 0, 1) := by decide +kernel
theorem dX12_beginOther_109 : decode cX12_beginOther 109 = .ok (.iastore, 1) := by decide +kernel
theorem dX12_beginOther_110 : decode cX12_beginOther 110 = .ok (.iinc 3 1, 3) := by decide +kernel
theorem dX12_beginOther_113 : decode cX12_beginOther 113 = .ok (.goto (-19), 3) := by decide +kernel
theorem dX12_beginOther_116 : decode cX12_beginOther 116 = .ok (.iinc 1 1, 3) := by decide +kernel
theorem dX12_beginOther_119 : decode cX12_beginOther 119 = .ok (.goto (-74), 3) := by decide +kernel
theorem dX12_beginOther_122 : decode cX12_beginOther 122 = .ok (.iconst 0, 1) := by decide +kernel
theorem dX12_beginOther_123 : decode cX12_beginOther 123 = .ok (.istore_n 1, 1) := by decide +kernel
theorem dX12_beginOther_124 : decode cX12_beginOther 124 = .ok (.iload_n 1, 1) := by decide +kernel
theorem dX12_beginOther_125 : decode cX12_beginOther 125 = .ok (.aload_n 0, 1) := by decide +kernel
theorem dX12_beginOther_126 : decode cX12_beginOther 126 = .ok (.getfield 200, 3) := by decide +kernel
theorem dX12_beginOther_129 : decode cX12_beginOther 129 = .ok (.if_icmp .ge 54, 3) := by decide +kernel
theorem dX12_beginOther_132 : decode cX12_beginOther 132 = .ok (.bipush 10, 2) := by decide +kernel
theorem dX12_beginOther_134 : decode cX12_beginOther 134 = .ok (.iload_n 1, 1) := by decide +kernel
theorem dX12_beginOther_135 : decode cX12_beginOther 135 = .ok (.iadd, 1) := by decide +kernel
theorem dX12_beginOther_136 : decode cX12_beginOther 136 = .ok (.istore_n 2, 1) := by decide +kernel
theorem dX12_beginOther_137 : decode cX12_beginOther 137 = .ok (.aload_n 0, 1) := by decide +kernel
theorem dX12_beginOther_138 : decode cX12_beginOther 138 = .ok (.getfield 103, 3) := by decide +kernel
theorem dX12_beginOther_141 : decode cX12_beginOther 141 = .ok (.iload_n 2, 1) := by decide +kernel
theorem dX12_beginOther_142 : decode cX12_beginOther 142 = .ok (.aload_n 0, 1) := by decide +kernel
theorem dX12_beginOther_143 : decode cX12_beginOther 143 = .ok (.getfield 103, 3) := by decide +kernel
theorem dX12_beginOther_146 : decode cX12_beginOther 146 = .ok (.iload_n 1, 1) := by decide +kernel
theorem dX12_beginOther_147 : decode cX12_beginOther 147 = .ok (.iaload, 1) := by decide +kernel
theorem dX12_beginOther_148 : decode cX12_beginOther 148 = .ok (.iastore, 1) := by decide +kernel
theorem dX12_beginOther_149 : decode cX12_beginOther 149 = .ok (.aload_n 0, 1) := by decide +kernel
theorem dX12_beginOther_150 : decode cX12_beginOther 150 = .ok (.getfield 106, 3) := by decide +kernel
theorem dX12_beginOther_153 : decode cX12_beginOther 153 = .ok (.iload_n 2, 1) := by decide +kernel
theorem dX12_beginOther_154 : decode cX12_beginOther 154 = .ok (.iload_n 1, 1) := by decide +kernel
theorem dX12_beginOther_155 : decode cX12_beginOther 155 = .ok (.iastore, 1) := by decide +kernel
theorem dX12_beginOther_156 : decode cX12_beginOther 156 = .ok (.aload_n 0, 1) := by decide +kernel
theorem dX12_beginOther_157 : decode cX12_beginOther 157 = .ok (.getfield 109, 3) := by decide +kernel
theorem dX12_beginOther_160 : decode cX12_beginOther 160 = .ok (.iload_n 2, 1) := by decide +kernel
theorem dX12_beginOther_161 : decode cX12_beginOther 161 = .ok (.iconst 0, 1) := by decide +kernel
theorem dX12_beginOther_162 : decode cX12_beginOther 162 = .ok (.iastore, 1) := by decide +kernel
theorem dX12_beginOther_163 : decode cX12_beginOther 163 = .ok (.aload_n 0, 1) := by decide +kernel
theorem dX12_beginOther_164 : decode cX12_beginOther 164 = .ok (.getfield 112, 3) := by decide +kernel
theorem dX12_beginOther_167 : decode cX12_beginOther 167 = .ok (.iload_n 2, 1) := by decide +kernel
theorem dX12_beginOther_168 : decode cX12_beginOther 168 = .ok (.iconst 0, 1) := by decide +kernel
theorem dX12_beginOther_169 : decode cX12_beginOther 169 = .ok (.iastore, 1) := by decide +kernel
theorem dX12_beginOther_170 : decode cX12_beginOther 170 = .ok (.aload_n 0, 1) := by decide +kernel
theorem dX12_beginOther_171 : decode cX12_beginOther 171 = .ok (.getfield 118, 3) := by decide +kernel
theorem dX12_beginOther_174 : decode cX12_beginOther 174 = .ok (.iload_n 2, 1) := by decide +kernel
theorem dX12_beginOther_175 : decode cX12_beginOther 175 = .ok (.iconst 0, 1) := by decide +kernel
theorem dX12_beginOther_176 : decode cX12_beginOther 176 = .ok (.bastore, 1) := by decide +kernel
theorem dX12_beginOther_177 : decode cX12_beginOther 177 = .ok (.iinc 1 1, 3) := by decide +kernel
theorem dX12_beginOther_180 : decode cX12_beginOther 180 = .ok (.goto (-56), 3) := by decide +kernel
theorem dX12_beginOther_183 : decode cX12_beginOther 183 = .ok (.return_, 1) := by decide +kernel
theorem dX12_other_0 : decode cX12_other 0 = .ok (.aload_n 0, 1) := by decide +kernel
theorem dX12_other_1 : decode cX12_other 1 = .ok (.iconst 0, 1) := by decide +kernel
theorem dX12_other_2 : decode cX12_other 2 = .ok (.putfield 194, 3) := by decide +kernel
theorem dX12_other_5 : decode cX12_other 5 = .ok (.iload_n 1, 1) := by decide +kernel
theorem dX12_other_6 : decode cX12_other 6 = .ok (.i2l, 1) := by decide +kernel
theorem dX12_other_7 : decode cX12_other 7 = .ok (.lconst 0, 1) := by decide +kernel
theorem dX12_other_8 : decode cX12_other 8 = .ok (.ldc2_w 235, 3) := by decide +kernel
theorem dX12_other_11 : decode cX12_other 11 = .ok (.invokestatic 214, 3) := by decide +kernel
theorem dX12_other_14 : decode cX12_other 14 = .ok (.ifCond .eq 40, 3) := by decide +kernel
theorem dX12_other_17 : decode cX12_other 17 = .ok (.iload_n 2, 1) := by decide +kernel
theorem dX12_other_18 : decode cX12_other 18 = .ok (.i2l, 1) := by decide +kernel
theorem dX12_other_19 : decode cX12_other 19 = .ok (.lconst 0, 1) := by decide +kernel
theorem dX12_other_20 : decode cX12_other 20 = .ok (.ldc2_w 237, 3) := by decide +kernel
theorem dX12_other_23 : decode cX12_other 23 = .ok (.invokestatic 214, 3) := by decide +kernel
theorem dX12_other_26 : decode cX12_other 26 = .ok (.ifCond .eq 28, 3) := by decide +kernel
theorem dX12_other_29 : decode cX12_other 29 = .ok (.iload_n 3, 1) := by decide +kernel
theorem dX12_other_30 : decode cX12_other 30 = .ok (.i2l, 1) := by decide +kernel
theorem dX12_other_31 : decode cX12_other 31 = .ok (.lconst 1, 1) := by decide +kernel
theorem dX12_other_32 : decode cX12_other 32 = .ok (.ldc2_w 239, 3) := by decide +kernel
theorem dX12_other_35 : decode cX12_other 35 = .ok (.invokestatic 214, 3) := by decide +kernel
theorem dX12_other_38 : decode cX12_other 38 = .ok (.ifCond .eq 16, 3) := by decide +kernel
theorem dX12_other_41 : decode cX12_other 41 = .ok (.iload 4, 2) := by decide +kernel
theorem dX12_other_43 : decode cX12_other 43 = .ok (.i2l, 1) := by decide +kernel
theorem dX12_other_44 : decode cX12_other 44 = .ok (.lconst 1, 1) := by decide +kernel
theorem dX12_other_45 : decode cX12_other 45 = .ok (.ldc2_w 330, 3) := by decide +kernel
theorem dX12_other_48 : decode cX12_other 48 = .ok (.invokestatic 214, 3) := by decide +kernel
theorem dX12_other_51 : decode cX12_other 51 = .ok (.ifCond .ne 5, 3) := by decide +kernel
theorem dX12_other_54 : decode cX12_other 54 = .ok (.iconst (-1), 1) := by decide +kernel
theorem dX12_other_55 : decode cX12_other 55 = .ok (.ireturn, 1) := by decide +kernel
theorem dX12_other_56 : decode cX12_other 56 = .ok (.aload_n 0, 1) := by decide +kernel
theorem dX12_other_57 : decode cX12_other 57 = .ok (.invokevirtual 340, 3) := by decide +kernel
theorem dX12_other_60 : decode cX12_other 60 = .ok (.aload_n 0, 1) := by decide +kernel
theorem dX12_other_61 : decode cX12_other 61 = .ok (.getfield 45, 3) := by decide +kernel
theorem dX12_other_64 : decode cX12_other 64 = .ok (.iconst 1, 1) := by decide +kernel
theorem dX12_other_65 : decode cX12_other 65 = .ok (.iload_n 1, 1) := by decide +kernel
theorem dX12_other_66 : decode cX12_other 66 = .ok (.iastore, 1) := by decide +kernel
theorem dX12_other_67 : decode cX12_other 67 = .ok (.aload_n 0, 1) := by decide +kernel
theorem dX12_other_68 : decode cX12_other 68 = .ok (.getfield 48, 3) := by decide +kernel
theorem dX12_other_71 : decode cX12_other 71 = .ok (.iconst 1, 1) := by decide +kernel
theorem dX12_other_72 : decode cX12_other 72 = .ok (.iload_n 2, 1) := by decide +kernel
theorem dX12_other_73 : decode cX12_other 73 = .ok (.iastore, 1) := by decide +kernel
theorem dX12_other_74 : decode cX12_other 74 = .ok (.aload_n 0, 1) := by decide +kernel
theorem dX12_other_75 : decode cX12_other 75 = .ok (.getfield 51, 3) := by decide +kernel
theorem dX12_other_78 : decode cX12_other 78 = .ok (.iconst 1, 1) := by decide +kernel
theorem dX12_other_79 : decode cX12_other 79 = .ok (.iload_n 3, 1) := by decide +kernel
theorem dX12_other_80 : decode cX12_other 80 = .ok (.iastore, 1) := by decide +kernel
theorem dX12_other_81 : decode cX12_other 81 = .ok (.iconst 0, 1) := by decide +kernel
theorem dX12_other_82 : decode cX12_other 82 = .ok (.istore 5, 2) := by decide +kernel
theorem dX12_other_84 : decode cX12_other 84 = .ok (.iload 5, 2) := by decide +kernel
theorem dX12_other_86 : decode cX12_other 86 = .ok (.iload 4, 2) := by decide +kernel
theorem dX12_other_88 : decode cX12_other 88 = .ok (.if_icmp .ge 13, 3) := by decide +kernel
theorem dX12_other_91 : decode cX12_other 91 = .ok (.aload_n 0, 1) := by decide +kernel
theorem dX12_other_92 : decode cX12_other 92 = .ok (.invokevirtual 332, 3) := by decide +kernel
theorem dX12_other_95 : decode cX12_other 95 = .ok (.iinc 5 1, 3) := by decide +kernel
theorem dX12_other_98 : decode cX12_other 98 = .ok (.goto (-14), 3) := by decide +kernel
theorem dX12_other_101 : decode cX12_other 101 = .ok (.aload_n 0, 1) := by decide +kernel
theorem dX12_other_102 : decode cX12_other 102 = .ok (.iconst 0, 1) := by decide +kernel
theorem dX12_other_103 : decode cX12_other 103 = .ok (.putfield 243, 3) := by decide +kernel
theorem dX12_other_106 : decode cX12_other 106 = .ok (.aload_n 0, 1) := by decide +kernel
theorem dX12_other_107 : decode cX12_other 107 = .ok (.getfield 63, 3) := by decide +kernel
theorem dX12_other_110 : decode cX12_other 110 = .ok (.iconst 1, 1) := by decide +kernel
theorem dX12_other_111 : decode cX12_other 111 = .ok (.laload, 1) := by decide +kernel
theorem dX12_other_112 : decode cX12_other 112 = .ok (.l2i, 1) := by decide +kernel
theorem dX12_other_113 : decode cX12_other 113 = .ok (.ireturn, 1) := by decide +kernel
theorem dX12_same_0 : decode cX12_same 0 = .ok (.aload_n 0, 1) := by decide +kernel
theorem dX12_same_1 : decode cX12_same 1 = .ok (.iconst 0, 1) := by decide +kernel
theorem dX12_same_2 : decode cX12_same 2 = .ok (.putfield 194, 3) := by decide +kernel
theorem dX12_same_5 : decode cX12_same 5 = .ok (.aload_n 0, 1) := by decide +kernel
theorem dX12_same_6 : decode cX12_same 6 = .ok (.getfield 60, 3) := by decide +kernel
theorem dX12_same_9 : decode cX12_same 9 = .ok (.iconst 0, 1) := by decide +kernel
theorem dX12_same_10 : decode cX12_same 10 = .ok (.iaload, 1) := by decide +kernel
theorem dX12_same_11 : decode cX12_same 11 = .ok (.aload_n 0, 1) := by decide +kernel
theorem dX12_same_12 : decode cX12_same 12 = .ok (.getfield 284, 3) := by decide +kernel
theorem dX12_same_15 : decode cX12_same 15 = .ok (.if_icmp .le 6, 3) := by decide +kernel
theorem dX12_same_18 : decode cX12_same 18 = .ok (.bipush (-2), 2) := by decide +kernel
theorem dX12_same_20 : decode cX12_same 20 = .ok (.ireturn, 1) := by decide +kernel
theorem dX12_same_21 : decode cX12_same 21 = .ok (.iconst 0, 1) := by decide +kernel
theorem dX12_same_22 : decode cX12_same 22 = .ok (.istore_n 1, 1) := by decide +kernel
theorem dX12_same_23 : decode cX12_same 23 = .ok (.iload_n 1, 1) := by decide +kernel
theorem dX12_same_24 : decode cX12_same 24 = .ok (.bipush 80, 2) := by decide +kernel
theorem dX12_same_26 : decode cX12_same 26 = .ok (.if_icmp .ge 16, 3) := by decide +kernel
theorem dX12_same_29 : decode cX12_same 29 = .ok (.aload_n 0, 1) := by decide +kernel
theorem dX12_same_30 : decode cX12_same 30 = .ok (.getfield 157, 3) := by decide +kernel
theorem dX12_same_33 : decode cX12_same 33 = .ok (.iload_n 1, 1) := by decide +kernel
theorem dX12_same_34 : decode cX12_same 34 = .ok (.iconst 0, 1) := by decide +kernel
theorem dX12_same_35 : decode cX12_same 35 = .ok (.iastore, 1) := by decide +kernel
theorem dX12_same_36 : decode cX12_same 36 = .ok (.iinc 1 1, 3) := by decide +kernel
theorem dX12_same_39 : decode cX12_same 39 = .ok (.goto (-16), 3) := by decide +kernel
theorem dX12_same_42 : decode cX12_same 42 = .ok (.iconst 0, 1) := by decide +kernel
theorem dX12_same_43 : decode cX12_same 43 = .ok (.istore_n 1, 1) := by decide +kernel
theorem dX12_same_44 : decode cX12_same 44 = .ok (.iload_n 1, 1) := by decide +kernel
theorem dX12_same_45 : decode cX12_same 45 = .ok (.aload_n 0, 1) := by decide +kernel
theorem dX12_same_46 : decode cX12_same 46 = .ok (.getfield 284, 3) := by decide +kernel
theorem dX12_same_49 : decode cX12_same 49 = .ok (.if_icmp .ge 71, 3) := by decide +kernel
theorem dX12_same_52 : decode cX12_same 52 = .ok (.iconst 4, 1) := by decide +kernel
theorem dX12_same_53 : decode cX12_same 53 = .ok (.aload_n 0, 1) := by decide +kernel
theorem dX12_same_54 : decode cX12_same 54 = .ok (.getfield 145, 3) := by decide +kernel
theorem dX12_same_57 : decode cX12_same 57 = .ok (.bipush 10, 2) := by decide +kernel
theorem dX12_same_59 : decode cX12_same 59 = .ok (.iload_n 1, 1) := by decide +kernel
theorem dX12_same_60 : decode cX12_same 60 = .ok (.imul, 1) := by decide +kernel
theorem dX12_same_61 : decode cX12_same 61 = .ok (.iconst 3, 1) := by decide +kernel
theorem dX12_same_62 : decode cX12_same 62 = .ok (.iadd, 1) := by decide +kernel
theorem dX12_same_63 : decode cX12_same 63 = .ok (.iaload, 1) := by decide +kernel
theorem dX12_same_64 : decode cX12_same 64 = .ok (.imul, 1) := by decide +kernel
theorem dX12_same_65 : decode cX12_same 65 = .ok (.aload_n 0, 1) := by decide +kernel
theorem dX12_same_66 : decode cX12_same 66 = .ok (.getfield 145, 3) := by decide +kernel
theorem dX12_same_69 : decode cX12_same 69 = .ok (.bipush 10, 2) := by decide +kernel
theorem dX12_same_71 : decode cX12_same 71 = .ok (.iload_n 1, 1) := by decide +kernel
theorem dX12_same_72 : decode cX12_same 72 = .ok (.imul, 1) := by decide +kernel
theorem dX12_same_73 : decode cX12_same 73 = .ok (.iconst 4, 1) := by decide +kernel
theorem dX12_same_74 : decode cX12_same 74 = .ok (.iadd, 1) := by decide +kernel
theorem dX12_same_75 : decode cX12_same 75 = .ok (.iaload, 1) := by decide +kernel
theorem dX12_same_76 : decode cX12_same 76 = .ok (.iadd, 1) := by decide +kernel
theorem dX12_same_77 : decode cX12_same 77 = .ok (.istore_n 2, 1) := by decide +kernel
theorem dX12_same_78 : decode cX12_same 78 = .ok (.aload_n 0, 1) := by decide +kernel
theorem dX12_same_79 : decode cX12_same 79 = .ok (.getfield 157, 3) := by decide +kernel
theorem dX12_same_82 : decode cX12_same 82 = .ok (.iload_n 2, 1) := by decide +kernel
theorem dX12_same_83 : decode cX12_same 83 = .ok (.aload_n 0, 1) := by decide +kernel
theorem dX12_same_84 : decode cX12_same 84 = .ok (.getfield 145, 3) := by decide +kernel
theorem dX12_same_87 : decode cX12_same 87 = .ok (.bipush 10, 2) := by decide +kernel
theorem dX12_same_89 : decode cX12_same 89 = .ok (.iload_n 1, 1) := by decide +kernel
theorem dX12_same_90 : decode cX12_same 90 = .ok (.imul, 1) := by decide +kernel
theorem dX12_same_91 : decode cX12_same 91 = .ok (.iconst 5, 1) := by decide +kernel
theorem dX12_same_92 : decode cX12_same 92 = .ok (.iadd, 1) := by decide +kernel
theorem dX12_same_93 : decode cX12_same 93 = .ok (.iaload, 1) := by decide +kernel
theorem dX12_same_94 : decode cX12_same 94 = .ok (.iconst 1, 1) := by decide +kernel
theorem dX12_same_95 : decode cX12_same 95 = .ok (.if_icmp .ne 12, 3) := by decide +kernel
theorem dX12_same_98 : decode cX12_same 98 = .ok (.aload_n 0, 1) := by decide +kernel
theorem dX12_same_99 : decode cX12_same 99 = .ok (.getfield 148, 3) := by decide +kernel
theorem dX12_same_102 : decode cX12_same 102 = .ok (.iload_n 1, 1) := by decide +kernel
theorem dX12_same_103 : decode cX12_same 103 = .ok (.iaload, 1) := by decide +kernel
theorem dX12_same_104 : decode cX12_same 104 = .ok (.goto 9, 3) := by decide +kernel
theorem dX12_same_107 : decode cX12_same 107 = .ok (.aload_n 0, 1) := by decide +kernel
theorem dX12_same_108 : decode cX12_same 108 = .ok (.getfield 157, 3) := by decide +kernel
theorem dX12_same_111 : decode cX12_same 111 = .ok (.iload_n 2, 1) := by decide +kernel
theorem dX12_same_112 : decode cX12_same 112 = .ok (.iaload, 1) := by decide +kernel
theorem dX12_same_113 : decode cX12_same 113 = .ok (.iastore, 1) := by decide +kernel
theorem dX12_same_114 : decode cX12_same 114 = .ok (.iinc 1 1, 3) := by decide +kernel
theorem dX12_same_117 : decode cX12_same 117 = .ok (.goto (-73), 3) := by decide +kernel
theorem dX12_same_120 : decode cX12_same 120 = .ok (.iconst 1, 1) := by decide +kernel
theorem dX12_same_121 : decode cX12_same 121 = .ok (.istore_n 1, 1) := by decide +kernel
theorem dX12_same_122 : decode cX12_same 122 = .ok (.iconst 0, 1) := by decide +kernel
theorem dX12_same_123 : decode cX12_same 123 = .ok (.istore_n 2, 1) := by decide +kernel
theorem dX12_same_124 : decode cX12_same 124 = .ok (.iload_n 2, 1) := by decide +kernel
theorem dX12_same_125 : decode cX12_same 125 = .ok (.iconst 4, 1) := by decide +kernel
theorem dX12_same_126 : decode cX12_same 126 = .ok (.aload_n 0, 1) := by decide +kernel
theorem dX12_same_127 : decode cX12_same 127 = .ok (.getfield 197, 3) := by decide +kernel
theorem dX12_same_130 : decode cX12_same 130 = .ok (.imul, 1) := by decide +kernel
theorem dX12_same_131 : decode cX12_same 131 = .ok (.if_icmp .ge 34, 3) := by decide +kernel
theorem dX12_same_134 : decode cX12_same 134 = .ok (.iload_n 1, 1) := by decide +kernel
theorem dX12_same_135 : decode cX12_same 135 = .ok (.ifCond .eq 22, 3) := by decide +kernel
theorem dX12_same_138 : decode cX12_same 138 = .ok (.aload_n 0, 1) := by decide +kernel
theorem dX12_same_139 : decode cX12_same 139 = .ok (.getfield 157, 3) := by decide +kernel
theorem dX12_same_142 : decode cX12_same 142 = .ok (.iload_n 2, 1) := by decide +kernel
theorem dX12_same_143 : decode cX12_same 143 = .ok (.iaload, 1) := by decide +kernel
theorem dX12_same_144 : decode cX12_same 144 = .ok (.aload_n 0, 1) := by decide +kernel
theorem dX12_same_145 : decode cX12_same 145 = .ok (.getfield 100, 3) := by decide +kernel
theorem dX12_same_148 : decode cX12_same 148 = .ok (.iload_n 2, 1) := by decide +kernel
theorem dX12_same_149 : decode cX12_same 149 = .ok (.iaload, 1) := by decide +kernel
theorem dX12_same_150 : decode cX12_same 150 = .ok (.if_icmp .ne 7, 3) := by decide +kernel
theorem dX12_same_153 : decode cX12_same 153 = .ok (.iconst 1, 1) := by decide +kernel
theorem dX12_same_154 : decode cX12_same 154 = .ok (.goto 4, 3) := by decide +kernel
theorem dX12_same_157 : decode cX12_same 157 = .ok (.iconst 0, 1) := by decide +kernel
theorem dX12_same_158 : decode cX12_same 158 = .ok (.istore_n 1, 1) := by decide +kernel
theorem dX12_same_159 : decode cX12_same 159 = .ok (.iinc 2 1, 3) := by decide +kernel
theorem dX12_same_162 : decode cX12_same 162 = .ok (.goto (-38), 3) := by decide +kernel
theorem dX12_same_165 : decode cX12_same 165 = .ok (.iload_n 1, 1) := by decide +kernel
theorem dX12_same_166 : decode cX12_same 166 = .ok (.ifCond .eq 7, 3) := by decide +kernel
theorem dX12_same_169 : decode cX12_same 169 = .ok (.iconst 1, 1) := by decide +kernel
theorem dX12_same_170 : decode cX12_same 170 = .ok (.goto 4, 3) := by decide +kernel
theorem dX12_same_173 : decode cX12_same 173 = .ok (.iconst 0, 1) := by decide +kernel
theorem dX12_same_174 : decode cX12_same 174 = .ok (.ireturn, 1) := by decide +kernel
theorem dX12_count_0 : decode cX12_count 0 = .ok (.aload_n 0, 1) := by decide +kernel
theorem dX12_count_1 : decode cX12_count 1 = .ok (.iconst 0, 1) := by decide +kernel
theorem dX12_count_2 : decode cX12_count 2 = .ok (.putfield 194, 3) := by decide +kernel
theorem dX12_count_5 : decode cX12_count 5 = .ok (.iload_n 1, 1) := by decide +kernel
theorem dX12_count_6 : decode cX12_count 6 = .ok (.tableswitch 126 0 10 #[58, 65, 70, 75, 80, 85, 90, 97, 105, 112, 119], 58) := by decide +kernel
theorem dX12_count_64 : decode cX12_count 64 = .ok (.aload_n 0, 1) := by decide +kernel
theorem dX12_count_65 : decode cX12_count 65 = .ok (.getfield 54, 3) := by decide +kernel
theorem dX12_count_68 : decode cX12_count 68 = .ok (.iconst 0, 1) := by decide +kernel
theorem dX12_count_69 : decode cX12_count 69 = .ok (.iaload, 1) := by decide +kernel
theorem dX12_count_70 : decode cX12_count 70 = .ok (.ireturn, 1) := by decide +kernel
theorem dX12_count_71 : decode cX12_count 71 = .ok (.aload_n 0, 1) := by decide +kernel
theorem dX12_count_72 : decode cX12_count 72 = .ok (.getfield 182, 3) := by decide +kernel
theorem dX12_count_75 : decode cX12_count 75 = .ok (.ireturn, 1) := by decide +kernel
theorem dX12_count_76 : decode cX12_count 76 = .ok (.aload_n 0, 1) := by decide +kernel
theorem dX12_count_77 : decode cX12_count 77 = .ok (.getfield 185, 3) := by decide +kernel
theorem dX12_count_80 : decode cX12_count 80 = .ok (.ireturn, 1) := by decide +kernel
theorem dX12_count_81 : decode cX12_count 81 = .ok (.aload_n 0, 1) := by decide +kernel
theorem dX12_count_82 : decode cX12_count 82 = .ok (.getfield 188, 3) := by decide +kernel
theorem dX12_count_85 : decode cX12_count 85 = .ok (.ireturn, 1) := by decide +kernel
theorem dX12_count_86 : decode cX12_count 86 = .ok (.aload_n 0, 1) := by decide +kernel
theorem dX12_count_87 : decode cX12_count 87 = .ok (.getfield 197, 3) := by decide +kernel
theorem dX12_count_90 : decode cX12_count 90 = .ok (.ireturn, 1) := by decide +kernel
theorem dX12_count_91 : decode cX12_count 91 = .ok (.aload_n 0, 1) := by decide +kernel
theorem dX12_count_92 : decode cX12_count 92 = .ok (.getfield 200, 3) := by decide +kernel
theorem dX12_count_95 : decode cX12_count 95 = .ok (.ireturn, 1) := by decide +kernel
theorem dX12_count_96 : decode cX12_count 96 = .ok (.aload_n 0, 1) := by decide +kernel
theorem dX12_count_97 : decode cX12_count 97 = .ok (.getfield 60, 3) := by decide +kernel
theorem dX12_count_100 : decode cX12_count 100 = .ok (.iconst 0, 1) := by decide +kernel
theorem dX12_count_101 : decode cX12_count 101 = .ok (.iaload, 1) := by decide +kernel
theorem dX12_count_102 : decode cX12_count 102 = .ok (.ireturn, 1) := by decide +kernel
theorem dX12_count_103 : decode cX12_count 103 = .ok (.aload_n 0, 1) := by decide +kernel
theorem dX12_count_104 : decode cX12_count 104 = .ok (.getfield 63, 3) := by decide +kernel
theorem dX12_count_107 : decode cX12_count 107 = .ok (.iconst 0, 1) := by decide +kernel
theorem dX12_count_108 : decode cX12_count 108 = .ok (.laload, 1) := by decide +kernel
theorem dX12_count_109 : decode cX12_count 109 = .ok (.l2i, 1) := by decide +kernel
theorem dX12_count_110 : decode cX12_count 110 = .ok (.ireturn, 1) := by decide +kernel
theorem dX12_count_111 : decode cX12_count 111 = .ok (.aload_n 0, 1) := by decide +kernel
theorem dX12_count_112 : decode cX12_count 112 = .ok (.getfield 67, 3) := by decide +kernel
theorem dX12_count_115 : decode cX12_count 115 = .ok (.iconst 0, 1) := by decide +kernel
theorem dX12_count_116 : decode cX12_count 116 = .ok (.iaload, 1) := by decide +kernel
theorem dX12_count_117 : decode cX12_count 117 = .ok (.ireturn, 1) := by decide +kernel
theorem dX12_count_118 : decode cX12_count 118 = .ok (.aload_n 0, 1) := by decide +kernel
theorem dX12_count_119 : decode cX12_count 119 = .ok (.getfield 70, 3) := by decide +kernel
theorem dX12_count_122 : decode cX12_count 122 = .ok (.iconst 0, 1) := by decide +kernel
theorem dX12_count_123 : decode cX12_count 123 = .ok (.iaload, 1) := by decide +kernel
theorem dX12_count_124 : decode cX12_count 124 = .ok (.ireturn, 1) := by decide +kernel
theorem dX12_count_125 : decode cX12_count 125 = .ok (.aload_n 0, 1) := by decide +kernel
theorem dX12_count_126 : decode cX12_count 126 = .ok (.getfield 73, 3) := by decide +kernel
theorem dX12_count_129 : decode cX12_count 129 = .ok (.iconst 0, 1) := by decide +kernel
theorem dX12_count_130 : decode cX12_count 130 = .ok (.iaload, 1) := by decide +kernel
theorem dX12_count_131 : decode cX12_count 131 = .ok (.ireturn, 1) := by decide +kernel
theorem dX12_count_132 : decode cX12_count 132 = .ok (.iconst (-1), 1) := by decide +kernel
theorem dX12_count_133 : decode cX12_count 133 = .ok (.ireturn, 1) := by decide +kernel
theorem dX12_isShelf_0 : decode cX12_isShelf 0 = .ok (.iload_n 0, 1) := by decide +kernel
theorem dX12_isShelf_1 : decode cX12_isShelf 1 = .ok (.ifCond .lt 13, 3) := by decide +kernel
theorem dX12_isShelf_4 : decode cX12_isShelf 4 = .ok (.iload_n 0, 1) := by decide +kernel
theorem dX12_isShelf_5 : decode cX12_isShelf 5 = .ok (.bipush 8, 2) := by decide +kernel
theorem dX12_isShelf_7 : decode cX12_isShelf 7 = .ok (.if_icmp .ge 7, 3) := by decide +kernel
theorem dX12_isShelf_10 : decode cX12_isShelf 10 = .ok (.iconst 1, 1) := by decide +kernel
theorem dX12_isShelf_11 : decode cX12_isShelf 11 = .ok (.goto 4, 3) := by decide +kernel
theorem dX12_isShelf_14 : decode cX12_isShelf 14 = .ok (.iconst 0, 1) := by decide +kernel
theorem dX12_isShelf_15 : decode cX12_isShelf 15 = .ok (.ireturn, 1) := by decide +kernel
theorem dX12_weightOf_0 : decode cX12_weightOf 0 = .ok (.iload_n 1, 1) := by decide +kernel
theorem dX12_weightOf_1 : decode cX12_weightOf 1 = .ok (.iconst 1, 1) := by decide +kernel
theorem dX12_weightOf_2 : decode cX12_weightOf 2 = .ok (.iadd, 1) := by decide +kernel
theorem dX12_weightOf_3 : decode cX12_weightOf 3 = .ok (.istore_n 2, 1) := by decide +kernel
theorem dX12_weightOf_4 : decode cX12_weightOf 4 = .ok (.aload_n 0, 1) := by decide +kernel
theorem dX12_weightOf_5 : decode cX12_weightOf 5 = .ok (.getfield 19, 3) := by decide +kernel
theorem dX12_weightOf_8 : decode cX12_weightOf 8 = .ok (.iload_n 1, 1) := by decide +kernel
theorem dX12_weightOf_9 : decode cX12_weightOf 9 = .ok (.iaload, 1) := by decide +kernel
theorem dX12_weightOf_10 : decode cX12_weightOf 10 = .ok (.ifCond .ne 7, 3) := by decide +kernel
theorem dX12_weightOf_13 : decode cX12_weightOf 13 = .ok (.iload_n 2, 1) := by decide +kernel
theorem dX12_weightOf_14 : decode cX12_weightOf 14 = .ok (.goto 72, 3) := by decide +kernel
theorem dX12_weightOf_17 : decode cX12_weightOf 17 = .ok (.aload_n 0, 1) := by decide +kernel
theorem dX12_weightOf_18 : decode cX12_weightOf 18 = .ok (.getfield 19, 3) := by decide +kernel
theorem dX12_weightOf_21 : decode cX12_weightOf 21 = .ok (.iload_n 1, 1) := by decide +kernel
theorem dX12_weightOf_22 : decode cX12_weightOf 22 = .ok (.iaload, 1) := by decide +kernel
theorem dX12_weightOf_23 : decode cX12_weightOf 23 = .ok (.iconst 1, 1) := by decide +kernel
theorem dX12_weightOf_24 : decode cX12_weightOf 24 = .ok (.if_icmp .ne 21, 3) := by decide +kernel
theorem dX12_weightOf_27 : decode cX12_weightOf 27 = .ok (.iload_n 2, 1) := by decide +kernel
theorem dX12_weightOf_28 : decode cX12_weightOf 28 = .ok (.bipush 10, 2) := by decide +kernel
theorem dX12_weightOf_30 : decode cX12_weightOf 30 = .ok (.aload_n 0, 1) := by decide +kernel
theorem dX12_weightOf_31 : decode cX12_weightOf 31 = .ok (.aload_n 0, 1) := by decide +kernel
theorem dX12_weightOf_32 : decode cX12_weightOf 32 = .ok (.getfield 82, 3) := by decide +kernel
theorem dX12_weightOf_35 : decode cX12_weightOf 35 = .ok (.iload_n 1, 1) := by decide +kernel
theorem dX12_weightOf_36 : decode cX12_weightOf 36 = .ok (.iaload, 1) := by decide +kernel
theorem dX12_weightOf_37 : decode cX12_weightOf 37 = .ok (.invokevirtual 281, 3) := by decide +kernel
theorem dX12_weightOf_40 : decode cX12_weightOf 40 = .ok (.imul, 1) := by decide +kernel
theorem dX12_weightOf_41 : decode cX12_weightOf 41 = .ok (.iadd, 1) := by decide +kernel
theorem dX12_weightOf_42 : decode cX12_weightOf 42 = .ok (.goto 44, 3) := by decide +kernel
theorem dX12_weightOf_45 : decode cX12_weightOf 45 = .ok (.aload_n 0, 1) := by decide +kernel
theorem dX12_weightOf_46 : decode cX12_weightOf 46 = .ok (.getfield 19, 3) := by decide +kernel
theorem dX12_weightOf_49 : decode cX12_weightOf 49 = .ok (.iload_n 1, 1) := by decide +kernel
theorem dX12_weightOf_50 : decode cX12_weightOf 50 = .ok (.iaload, 1) := by decide +kernel
theorem dX12_weightOf_51 : decode cX12_weightOf 51 = .ok (.iconst 2, 1) := by decide +kernel
theorem dX12_weightOf_52 : decode cX12_weightOf 52 = .ok (.if_icmp .ne 29, 3) := by decide +kernel
theorem dX12_weightOf_55 : decode cX12_weightOf 55 = .ok (.iconst 2, 1) := by decide +kernel
theorem dX12_weightOf_56 : decode cX12_weightOf 56 = .ok (.iload_n 2, 1) := by decide +kernel
theorem dX12_weightOf_57 : decode cX12_weightOf 57 = .ok (.imul, 1) := by decide +kernel
theorem dX12_weightOf_58 : decode cX12_weightOf 58 = .ok (.aload_n 0, 1) := by decide +kernel
theorem dX12_weightOf_59 : decode cX12_weightOf 59 = .ok (.getfield 79, 3) := by decide +kernel
theorem dX12_weightOf_62 : decode cX12_weightOf 62 = .ok (.iload_n 1, 1) := by decide +kernel
theorem dX12_weightOf_63 : decode cX12_weightOf 63 = .ok (.iaload, 1) := by decide +kernel
theorem dX12_weightOf_64 : decode cX12_weightOf 64 = .ok (.ifCond .ge 7, 3) := by decide +kernel
theorem dX12_weightOf_67 : decode cX12_weightOf 67 = .ok (.iconst 0, 1) := by decide +kernel
theorem dX12_weightOf_68 : decode cX12_weightOf 68 = .ok (.goto 9, 3) := by decide +kernel
theorem dX12_weightOf_71 : decode cX12_weightOf 71 = .ok (.aload_n 0, 1) := by decide +kernel
theorem dX12_weightOf_72 : decode cX12_weightOf 72 = .ok (.getfield 79, 3) := by decide +kernel
theorem dX12_weightOf_75 : decode cX12_weightOf 75 = .ok (.iload_n 1, 1) := by decide +kernel
theorem dX12_weightOf_76 : decode cX12_weightOf 76 = .ok (.iaload, 1) := by decide +kernel
theorem dX12_weightOf_77 : decode cX12_weightOf 77 = .ok (.iadd, 1) := by decide +kernel
theorem dX12_weightOf_78 : decode cX12_weightOf 78 = .ok (.goto 8, 3) := by decide +kernel
theorem dX12_weightOf_81 : decode cX12_weightOf 81 = .ok (.iload_n 2, 1) := by decide +kernel
theorem dX12_weightOf_82 : decode cX12_weightOf 82 = .ok (.sipush 300, 3) := by decide +kernel
theorem dX12_weightOf_85 : decode cX12_weightOf 85 = .ok (.iadd, 1) := by decide +kernel
theorem dX12_weightOf_86 : decode cX12_weightOf 86 = .ok (.ireturn, 1) := by decide +kernel
theorem dX12_keep_0 : decode cX12_keep 0 = .ok (.aload_n 0, 1) := by decide +kernel
theorem dX12_keep_1 : decode cX12_keep 1 = .ok (.iconst 0, 1) := by decide +kernel
theorem dX12_keep_2 : decode cX12_keep 2 = .ok (.putfield 194, 3) := by decide +kernel
theorem dX12_keep_5 : decode cX12_keep 5 = .ok (.iload_n 1, 1) := by decide +kernel
theorem dX12_keep_6 : decode cX12_keep 6 = .ok (.invokestatic 343, 3) := by decide +kernel
theorem dX12_keep_9 : decode cX12_keep 9 = .ok (.ifCond .eq 34, 3) := by decide +kernel
theorem dX12_keep_12 : decode cX12_keep 12 = .ok (.iload_n 2, 1) := by decide +kernel
theorem dX12_keep_13 : decode cX12_keep 13 = .ok (.ifCond .eq 26, 3) := by decide +kernel
theorem dX12_keep_16 : decode cX12_keep 16 = .ok (.iload_n 2, 1) := by decide +kernel
theorem dX12_keep_17 : decode cX12_keep 17 = .ok (.iconst 1, 1) := by decide +kernel
theorem dX12_keep_18 : decode cX12_keep 18 = .ok (.if_icmp .eq 8, 3) := by decide +kernel
theorem dX12_keep_21 : decode cX12_keep 21 = .ok (.iload_n 2, 1) := by decide +kernel
theorem dX12_keep_22 : decode cX12_keep 22 = .ok (.iconst 4, 1) := by decide +kernel
theorem dX12_keep_23 : decode cX12_keep 23 = .ok (.if_icmp .ne 11, 3) := by decide +kernel
theorem dX12_keep_26 : decode cX12_keep 26 = .ok (.aload_n 0, 1) := by decide +kernel
theorem dX12_keep_27 : decode cX12_keep 27 = .ok (.iload_n 3, 1) := by decide +kernel
theorem dX12_keep_28 : decode cX12_keep 28 = .ok (.invokevirtual 253, 3) := by decide +kernel
theorem dX12_keep_31 : decode cX12_keep 31 = .ok (.ifCond .ne 8, 3) := by decide +kernel
theorem dX12_keep_34 : decode cX12_keep 34 = .ok (.iload_n 2, 1) := by decide +kernel
theorem dX12_keep_35 : decode cX12_keep 35 = .ok (.iconst 3, 1) := by decide +kernel
theorem dX12_keep_36 : decode cX12_keep 36 = .ok (.if_icmp .ne 7, 3) := by decide +kernel
theorem dX12_keep_39 : decode cX12_keep 39 = .ok (.iconst 1, 1) := by decide +kernel
theorem dX12_keep_40 : decode cX12_keep 40 = .ok (.goto 4, 3) := by decide +kernel
theorem dX12_keep_43 : decode cX12_keep 43 = .ok (.iconst 0, 1) := by decide +kernel
theorem dX12_keep_44 : decode cX12_keep 44 = .ok (.istore 4, 2) := by decide +kernel
theorem dX12_keep_46 : decode cX12_keep 46 = .ok (.iload 4, 2) := by decide +kernel
theorem dX12_keep_48 : decode cX12_keep 48 = .ok (.ifCond .ne 5, 3) := by decide +kernel
theorem dX12_keep_51 : decode cX12_keep 51 = .ok (.iconst (-1), 1) := by decide +kernel
theorem dX12_keep_52 : decode cX12_keep 52 = .ok (.ireturn, 1) := by decide +kernel
theorem dX12_keep_53 : decode cX12_keep 53 = .ok (.aload_n 0, 1) := by decide +kernel
theorem dX12_keep_54 : decode cX12_keep 54 = .ok (.getfield 160, 3) := by decide +kernel
theorem dX12_keep_57 : decode cX12_keep 57 = .ok (.iload_n 1, 1) := by decide +kernel
theorem dX12_keep_58 : decode cX12_keep 58 = .ok (.iload_n 2, 1) := by decide +kernel
theorem dX12_keep_59 : decode cX12_keep 59 = .ok (.iastore, 1) := by decide +kernel
theorem dX12_keep_60 : decode cX12_keep 60 = .ok (.aload_n 0, 1) := by decide +kernel
theorem dX12_keep_61 : decode cX12_keep 61 = .ok (.getfield 163, 3) := by decide +kernel
theorem dX12_keep_64 : decode cX12_keep 64 = .ok (.iload_n 1, 1) := by decide +kernel
theorem dX12_keep_65 : decode cX12_keep 65 = .ok (.iload_n 2, 1) := by decide +kernel
theorem dX12_keep_66 : decode cX12_keep 66 = .ok (.iconst 3, 1) := by decide +kernel
theorem dX12_keep_67 : decode cX12_keep 67 = .ok (.if_icmp .ne 10, 3) := by decide +kernel
theorem dX12_keep_70 : decode cX12_keep 70 = .ok (.aload_n 0, 1) := by decide +kernel
theorem dX12_keep_71 : decode cX12_keep 71 = .ok (.getfield 200, 3) := by decide +kernel
theorem dX12_keep_74 : decode cX12_keep 74 = .ok (.goto 13, 3) := by decide +kernel
theorem dX12_keep_77 : decode cX12_keep 77 = .ok (.iload_n 2, 1) := by decide +kernel
theorem dX12_keep_78 : decode cX12_keep 78 = .ok (.iconst 4, 1) := by decide +kernel
theorem dX12_keep_79 : decode cX12_keep 79 = .ok (.if_icmp .ne 7, 3) := by decide +kernel
theorem dX12_keep_82 : decode cX12_keep 82 = .ok (.iconst 4, 1) := by decide +kernel
theorem dX12_keep_83 : decode cX12_keep 83 = .ok (.goto 4, 3) := by decide +kernel
theorem dX12_keep_86 : decode cX12_keep 86 = .ok (.iconst 0, 1) := by decide +kernel
theorem dX12_keep_87 : decode cX12_keep 87 = .ok (.iastore, 1) := by decide +kernel
theorem dX12_keep_88 : decode cX12_keep 88 = .ok (.iload_n 2, 1) := by decide +kernel
theorem dX12_keep_89 : decode cX12_keep 89 = .ok (.iconst 1, 1) := by decide +kernel
theorem dX12_keep_90 : decode cX12_keep 90 = .ok (.if_icmp .ne 35, 3) := by decide +kernel
theorem dX12_keep_93 : decode cX12_keep 93 = .ok (.aload_n 0, 1) := by decide +kernel
theorem dX12_keep_94 : decode cX12_keep 94 = .ok (.getfield 166, 3) := by decide +kernel
theorem dX12_keep_97 : decode cX12_keep 97 = .ok (.iload_n 1, 1) := by decide +kernel
theorem dX12_keep_98 : decode cX12_keep 98 = .ok (.aload_n 0, 1) := by decide +kernel
theorem dX12_keep_99 : decode cX12_keep 99 = .ok (.iload_n 3, 1) := by decide +kernel
theorem dX12_keep_100 : decode cX12_keep 100 = .ok (.invokevirtual 346, 3) := by decide +kernel
theorem dX12_keep_103 : decode cX12_keep 103 = .ok (.iastore, 1) := by decide +kernel
theorem dX12_keep_104 : decode cX12_keep 104 = .ok (.aload_n 0, 1) := by decide +kernel
theorem dX12_keep_105 : decode cX12_keep 105 = .ok (.getfield 169, 3) := by decide +kernel
theorem dX12_keep_108 : decode cX12_keep 108 = .ok (.iload_n 1, 1) := by decide +kernel
theorem dX12_keep_109 : decode cX12_keep 109 = .ok (.aload_n 0, 1) := by decide +kernel
theorem dX12_keep_110 : decode cX12_keep 110 = .ok (.getfield 19, 3) := by decide +kernel
theorem dX12_keep_113 : decode cX12_keep 113 = .ok (.iload_n 3, 1) := by decide +kernel
theorem dX12_keep_114 : decode cX12_keep 114 = .ok (.iaload, 1) := by decide +kernel
theorem dX12_keep_115 : decode cX12_keep 115 = .ok (.ifCond .ne 8, 3) := by decide +kernel
theorem dX12_keep_118 : decode cX12_keep 118 = .ok (.bipush (-15), 2) := by decide +kernel
theorem dX12_keep_120 : decode cX12_keep 120 = .ok (.goto 4, 3) := by decide +kernel
theorem dX12_keep_123 : decode cX12_keep 123 = .ok (.iload_n 3, 1) := by decide +kernel
theorem dX12_keep_124 : decode cX12_keep 124 = .ok (.iastore, 1) := by decide +kernel
theorem dX12_keep_125 : decode cX12_keep 125 = .ok (.iconst 0, 1) := by decide +kernel
theorem dX12_keep_126 : decode cX12_keep 126 = .ok (.istore 5, 2) := by decide +kernel
theorem dX12_keep_128 : decode cX12_keep 128 = .ok (.iload 5, 2) := by decide +kernel
theorem dX12_keep_130 : decode cX12_keep 130 = .ok (.aload_n 0, 1) := by decide +kernel
theorem dX12_keep_131 : decode cX12_keep 131 = .ok (.getfield 163, 3) := by decide +kernel
theorem dX12_keep_134 : decode cX12_keep 134 = .ok (.iload_n 1, 1) := by decide +kernel
theorem dX12_keep_135 : decode cX12_keep 135 = .ok (.iaload, 1) := by decide +kernel
theorem dX12_keep_136 : decode cX12_keep 136 = .ok (.if_icmp .ge 47, 3) := by decide +kernel
theorem dX12_keep_139 : decode cX12_keep 139 = .ok (.aload_n 0, 1) := by decide +kernel
theorem dX12_keep_140 : decode cX12_keep 140 = .ok (.getfield 172, 3) := by decide +kernel
theorem dX12_keep_143 : decode cX12_keep 143 = .ok (.bipush 60, 2) := by decide +kernel
theorem dX12_keep_145 : decode cX12_keep 145 = .ok (.iload_n 1, 1) := by decide +kernel
theorem dX12_keep_146 : decode cX12_keep 146 = .ok (.imul, 1) := by decide +kernel
theorem dX12_keep_147 : decode cX12_keep 147 = .ok (.iload 5, 2) := by decide +kernel
theorem dX12_keep_149 : decode cX12_keep 149 = .ok (.iadd, 1) := by decide +kernel
theorem dX12_keep_150 : decode cX12_keep 150 = .ok (.iload_n 2, 1) := by decide +kernel
theorem dX12_keep_151 : decode cX12_keep 151 = .ok (.iconst 3, 1) := by decide +kernel
theorem dX12_keep_152 : decode cX12_keep 152 = .ok (.if_icmp .ne 13, 3) := by decide +kernel
theorem dX12_keep_155 : decode cX12_keep 155 = .ok (.aload_n 0, 1) := by decide +kernel
theorem dX12_keep_156 : decode cX12_keep 156 = .ok (.getfield 103, 3) := by decide +kernel
theorem dX12_keep_159 : decode cX12_keep 159 = .ok (.iload 5, 2) := by decide +kernel
theorem dX12_keep_161 : decode cX12_keep 161 = .ok (.iaload, 1) := by decide +kernel
theorem dX12_keep_162 : decode cX12_keep 162 = .ok (.goto 14, 3) := by decide +kernel
theorem dX12_keep_165 : decode cX12_keep 165 = .ok (.aload_n 0, 1) := by decide +kernel
theorem dX12_keep_166 : decode cX12_keep 166 = .ok (.getfield 100, 3) := by decide +kernel
theorem dX12_keep_169 : decode cX12_keep 169 = .ok (.iconst 4, 1) := by decide +kernel
theorem dX12_keep_170 : decode cX12_keep 170 = .ok (.iload_n 3, 1) := by decide +kernel
theorem dX12_keep_171 : decode cX12_keep 171 = .ok (.imul, 1) := by decide +kernel
theorem dX12_keep_172 : decode cX12_keep 172 = .ok (.iload 5, 2) := by decide +kernel
theorem dX12_keep_174 : decode cX12_keep 174 = .ok (.iadd, 1) := by decide +kernel
theorem dX12_keep_175 : decode cX12_keep 175 = .ok (.iaload, 1) := by decide +kernel
theorem dX12_keep_176 : decode cX12_keep 176 = .ok (.iastore, 1) := by decide +kernel
theorem dX12_keep_177 : decode cX12_keep 177 = .ok (.iinc 5 1, 3) := by decide +kernel
theorem dX12_keep_180 : decode cX12_keep 180 = .ok (.goto (-52), 3) := by decide +kernel
theorem dX12_keep_183 : decode cX12_keep 183 = .ok (.iconst 0, 1) := by decide +kernel
theorem dX12_keep_184 : decode cX12_keep 184 = .ok (.ireturn, 1) := by decide +kernel
theorem dX12_make_0 : decode cX12_make 0 = .ok (.aload_n 0, 1) := by decide +kernel
theorem dX12_make_1 : decode cX12_make 1 = .ok (.iconst 0, 1) := by decide +kernel
theorem dX12_make_2 : decode cX12_make 2 = .ok (.putfield 194, 3) := by decide +kernel
theorem dX12_make_5 : decode cX12_make 5 = .ok (.iload_n 1, 1) := by decide +kernel
theorem dX12_make_6 : decode cX12_make 6 = .ok (.invokestatic 343, 3) := by decide +kernel
theorem dX12_make_9 : decode cX12_make 9 = .ok (.ifCond .eq 23, 3) := by decide +kernel
theorem dX12_make_12 : decode cX12_make 12 = .ok (.iload_n 2, 1) := by decide +kernel
theorem dX12_make_13 : decode cX12_make 13 = .ok (.i2l, 1) := by decide +kernel
theorem dX12_make_14 : decode cX12_make 14 = .ok (.ldc2_w 226, 3) := by decide +kernel
theorem dX12_make_17 : decode cX12_make 17 = .ok (.ldc2_w 218, 3) := by decide +kernel
theorem dX12_make_20 : decode cX12_make 20 = .ok (.invokestatic 214, 3) := by decide +kernel
theorem dX12_make_23 : decode cX12_make 23 = .ok (.ifCond .eq 9, 3) := by decide +kernel
theorem dX12_make_26 : decode cX12_make 26 = .ok (.iload_n 3, 1) := by decide +kernel
theorem dX12_make_27 : decode cX12_make 27 = .ok (.bipush 60, 2) := by decide +kernel
theorem dX12_make_29 : decode cX12_make 29 = .ok (.if_icmp .le 5, 3) := by decide +kernel
theorem dX12_make_32 : decode cX12_make 32 = .ok (.iconst (-1), 1) := by decide +kernel
theorem dX12_make_33 : decode cX12_make 33 = .ok (.ireturn, 1) := by decide +kernel
theorem dX12_make_34 : decode cX12_make 34 = .ok (.iload_n 3, 1) := by decide +kernel
theorem dX12_make_35 : decode cX12_make 35 = .ok (.ifCond .ge 6, 3) := by decide +kernel
theorem dX12_make_38 : decode cX12_make 38 = .ok (.bipush (-14), 2) := by decide +kernel
theorem dX12_make_40 : decode cX12_make 40 = .ok (.ireturn, 1) := by decide +kernel
theorem dX12_make_41 : decode cX12_make 41 = .ok (.aload_n 0, 1) := by decide +kernel
theorem dX12_make_42 : decode cX12_make 42 = .ok (.getfield 160, 3) := by decide +kernel
theorem dX12_make_45 : decode cX12_make 45 = .ok (.iload_n 1, 1) := by decide +kernel
theorem dX12_make_46 : decode cX12_make 46 = .ok (.iload_n 2, 1) := by decide +kernel
theorem dX12_make_47 : decode cX12_make 47 = .ok (.iastore, 1) := by decide +kernel
theorem dX12_make_48 : decode cX12_make 48 = .ok (.aload_n 0, 1) := by decide +kernel
theorem dX12_make_49 : decode cX12_make 49 = .ok (.getfield 163, 3) := by decide +kernel
theorem dX12_make_52 : decode cX12_make 52 = .ok (.iload_n 1, 1) := by decide +kernel
theorem dX12_make_53 : decode cX12_make 53 = .ok (.iload_n 3, 1) := by decide +kernel
theorem dX12_make_54 : decode cX12_make 54 = .ok (.iastore, 1) := by decide +kernel
theorem dX12_make_55 : decode cX12_make 55 = .ok (.iconst 0, 1) := by decide +kernel
theorem dX12_make_56 : decode cX12_make 56 = .ok (.istore 4, 2) := by decide +kernel
theorem dX12_make_58 : decode cX12_make 58 = .ok (.iload 4, 2) := by decide +kernel
theorem dX12_make_60 : decode cX12_make 60 = .ok (.iload_n 3, 1) := by decide +kernel
theorem dX12_make_61 : decode cX12_make 61 = .ok (.if_icmp .ge 22, 3) := by decide +kernel
theorem dX12_make_64 : decode cX12_make 64 = .ok (.aload_n 0, 1) := by decide +kernel
theorem dX12_make_65 : decode cX12_make 65 = .ok (.getfield 172, 3) := by decide +kernel
theorem dX12_make_68 : decode cX12_make 68 = .ok (.bipush 60, 2) := by decide +kernel
theorem dX12_make_70 : decode cX12_make 70 = .ok (.iload_n 1, 1) := by decide +kernel
theorem dX12_make_71 : decode cX12_make 71 = .ok (.imul, 1) := by decide +kernel
theorem dX12_make_72 : decode cX12_make 72 = .ok (.iload 4, 2) := by decide +kernel
theorem dX12_make_74 : decode cX12_make 74 = .ok (.iadd, 1) := by decide +kernel
theorem dX12_make_75 : decode cX12_make 75 = .ok (.iconst 0, 1) := by decide +kernel
theorem dX12_make_76 : decode cX12_make 76 = .ok (.iastore, 1) := by decide +kernel
theorem dX12_make_77 : decode cX12_make 77 = .ok (.iinc 4 1, 3) := by decide +kernel
theorem dX12_make_80 : decode cX12_make 80 = .ok (.goto (-22), 3) := by decide +kernel
theorem dX12_make_83 : decode cX12_make 83 = .ok (.iconst 0, 1) := by decide +kernel
theorem dX12_make_84 : decode cX12_make 84 = .ok (.ireturn, 1) := by decide +kernel
theorem dX12_element_0 : decode cX12_element 0 = .ok (.iload_n 1, 1) := by decide +kernel
theorem dX12_element_1 : decode cX12_element 1 = .ok (.invokestatic 343, 3) := by decide +kernel
theorem dX12_element_4 : decode cX12_element 4 = .ok (.ifCond .eq 35, 3) := by decide +kernel
theorem dX12_element_7 : decode cX12_element 7 = .ok (.aload_n 0, 1) := by decide +kernel
theorem dX12_element_8 : decode cX12_element 8 = .ok (.getfield 160, 3) := by decide +kernel
theorem dX12_element_11 : decode cX12_element 11 = .ok (.iload_n 1, 1) := by decide +kernel
theorem dX12_element_12 : decode cX12_element 12 = .ok (.iaload, 1) := by decide +kernel
theorem dX12_element_13 : decode cX12_element 13 = .ok (.iconst 2, 1) := by decide +kernel
theorem dX12_element_14 : decode cX12_element 14 = .ok (.if_icmp .le 25, 3) := by decide +kernel
theorem dX12_element_17 : decode cX12_element 17 = .ok (.iload_n 2, 1) := by decide +kernel
theorem dX12_element_18 : decode cX12_element 18 = .ok (.i2l, 1) := by decide +kernel
theorem dX12_element_19 : decode cX12_element 19 = .ok (.lconst 0, 1) := by decide +kernel
theorem dX12_element_20 : decode cX12_element 20 = .ok (.aload_n 0, 1) := by decide +kernel
theorem dX12_element_21 : decode cX12_element 21 = .ok (.getfield 163, 3) := by decide +kernel
theorem dX12_element_24 : decode cX12_element 24 = .ok (.iload_n 1, 1) := by decide +kernel
theorem dX12_element_25 : decode cX12_element 25 = .ok (.iaload, 1) := by decide +kernel
theorem dX12_element_26 : decode cX12_element 26 = .ok (.iconst 1, 1) := by decide +kernel
theorem dX12_element_27 : decode cX12_element 27 = .ok (.isub, 1) := by decide +kernel
theorem dX12_element_28 : decode cX12_element 28 = .ok (.i2l, 1) := by decide +kernel
theorem dX12_element_29 : decode cX12_element 29 = .ok (.invokestatic 214, 3) := by decide +kernel
theorem dX12_element_32 : decode cX12_element 32 = .ok (.ifCond .eq 7, 3) := by decide +kernel
theorem dX12_element_35 : decode cX12_element 35 = .ok (.iconst 1, 1) := by decide +kernel
theorem dX12_element_36 : decode cX12_element 36 = .ok (.goto 4, 3) := by decide +kernel
theorem dX12_element_39 : decode cX12_element 39 = .ok (.iconst 0, 1) := by decide +kernel
theorem dX12_element_40 : decode cX12_element 40 = .ok (.istore_n 3, 1) := by decide +kernel
theorem dX12_element_41 : decode cX12_element 41 = .ok (.aload_n 0, 1) := by decide +kernel
theorem dX12_element_42 : decode cX12_element 42 = .ok (.iload_n 1, 1) := by decide +kernel
theorem dX12_element_43 : decode cX12_element 43 = .ok (.invokestatic 343, 3) := by decide +kernel
theorem dX12_element_46 : decode cX12_element 46 = .ok (.ifCond .ne 7, 3) := by decide +kernel
theorem dX12_element_49 : decode cX12_element 49 = .ok (.iconst 1, 1) := by decide +kernel
theorem dX12_element_50 : decode cX12_element 50 = .ok (.goto 12, 3) := by decide +kernel
theorem dX12_element_53 : decode cX12_element 53 = .ok (.iload_n 3, 1) := by decide +kernel
theorem dX12_element_54 : decode cX12_element 54 = .ok (.ifCond .eq 7, 3) := by decide +kernel
theorem dX12_element_57 : decode cX12_element 57 = .ok (.iconst 0, 1) := by decide +kernel
theorem dX12_element_58 : decode cX12_element 58 = .ok (.goto 4, 3) := by decide +kernel
theorem dX12_element_61 : decode cX12_element 61 = .ok (.iconst 2, 1) := by decide +kernel
theorem dX12_element_62 : decode cX12_element 62 = .ok (.putfield 194, 3) := by decide +kernel
theorem dX12_element_65 : decode cX12_element 65 = .ok (.iload_n 3, 1) := by decide +kernel
theorem dX12_element_66 : decode cX12_element 66 = .ok (.ifCond .eq 18, 3) := by decide +kernel
theorem dX12_element_69 : decode cX12_element 69 = .ok (.aload_n 0, 1) := by decide +kernel
theorem dX12_element_70 : decode cX12_element 70 = .ok (.getfield 172, 3) := by decide +kernel
theorem dX12_element_73 : decode cX12_element 73 = .ok (.bipush 60, 2) := by decide +kernel
theorem dX12_element_75 : decode cX12_element 75 = .ok (.iload_n 1, 1) := by decide +kernel
theorem dX12_element_76 : decode cX12_element 76 = .ok (.imul, 1) := by decide +kernel
theorem dX12_element_77 : decode cX12_element 77 = .ok (.iload_n 2, 1) := by decide +kernel
theorem dX12_element_78 : decode cX12_element 78 = .ok (.iadd, 1) := by decide +kernel
theorem dX12_element_79 : decode cX12_element 79 = .ok (.iaload, 1) := by decide +kernel
theorem dX12_element_80 : decode cX12_element 80 = .ok (.i2l, 1) := by decide +kernel
theorem dX12_element_81 : decode cX12_element 81 = .ok (.goto 4, 3) := by decide +kernel
theorem dX12_element_84 : decode cX12_element 84 = .ok (.lconst 0, 1) := by decide +kernel
theorem dX12_element_85 : decode cX12_element 85 = .ok (.lreturn, 1) := by decide +kernel
theorem dX12_hasPlaces_0 : decode cX12_hasPlaces 0 = .ok (.iload_n 3, 1) := by decide +kernel
theorem dX12_hasPlaces_1 : decode cX12_hasPlaces 1 = .ok (.ifCond .lt 33, 3) := by decide +kernel
theorem dX12_hasPlaces_4 : decode cX12_hasPlaces 4 = .ok (.iload_n 2, 1) := by decide +kernel
theorem dX12_hasPlaces_5 : decode cX12_hasPlaces 5 = .ok (.ifCond .lt 29, 3) := by decide +kernel
theorem dX12_hasPlaces_8 : decode cX12_hasPlaces 8 = .ok (.iload_n 2, 1) := by decide +kernel
theorem dX12_hasPlaces_9 : decode cX12_hasPlaces 9 = .ok (.aload_n 0, 1) := by decide +kernel
theorem dX12_hasPlaces_10 : decode cX12_hasPlaces 10 = .ok (.getfield 163, 3) := by decide +kernel
theorem dX12_hasPlaces_13 : decode cX12_hasPlaces 13 = .ok (.iload_n 1, 1) := by decide +kernel
theorem dX12_hasPlaces_14 : decode cX12_hasPlaces 14 = .ok (.iaload, 1) := by decide +kernel
theorem dX12_hasPlaces_15 : decode cX12_hasPlaces 15 = .ok (.if_icmp .gt 19, 3) := by decide +kernel
theorem dX12_hasPlaces_18 : decode cX12_hasPlaces 18 = .ok (.iload_n 3, 1) := by decide +kernel
theorem dX12_hasPlaces_19 : decode cX12_hasPlaces 19 = .ok (.aload_n 0, 1) := by decide +kernel
theorem dX12_hasPlaces_20 : decode cX12_hasPlaces 20 = .ok (.getfield 163, 3) := by decide +kernel
theorem dX12_hasPlaces_23 : decode cX12_hasPlaces 23 = .ok (.iload_n 1, 1) := by decide +kernel
theorem dX12_hasPlaces_24 : decode cX12_hasPlaces 24 = .ok (.iaload, 1) := by decide +kernel
theorem dX12_hasPlaces_25 : decode cX12_hasPlaces 25 = .ok (.iload_n 2, 1) := by decide +kernel
theorem dX12_hasPlaces_26 : decode cX12_hasPlaces 26 = .ok (.isub, 1) := by decide +kernel
theorem dX12_hasPlaces_27 : decode cX12_hasPlaces 27 = .ok (.if_icmp .gt 7, 3) := by decide +kernel
theorem dX12_hasPlaces_30 : decode cX12_hasPlaces 30 = .ok (.iconst 1, 1) := by decide +kernel
theorem dX12_hasPlaces_31 : decode cX12_hasPlaces 31 = .ok (.goto 4, 3) := by decide +kernel
theorem dX12_hasPlaces_34 : decode cX12_hasPlaces 34 = .ok (.iconst 0, 1) := by decide +kernel
theorem dX12_hasPlaces_35 : decode cX12_hasPlaces 35 = .ok (.ireturn, 1) := by decide +kernel
theorem dX12_copy_0 : decode cX12_copy 0 = .ok (.aload_n 0, 1) := by decide +kernel
theorem dX12_copy_1 : decode cX12_copy 1 = .ok (.iconst 0, 1) := by decide +kernel
theorem dX12_copy_2 : decode cX12_copy 2 = .ok (.putfield 194, 3) := by decide +kernel
theorem dX12_copy_5 : decode cX12_copy 5 = .ok (.iload_n 1, 1) := by decide +kernel
theorem dX12_copy_6 : decode cX12_copy 6 = .ok (.invokestatic 343, 3) := by decide +kernel
theorem dX12_copy_9 : decode cX12_copy 9 = .ok (.ifCond .eq 10, 3) := by decide +kernel
theorem dX12_copy_12 : decode cX12_copy 12 = .ok (.iload_n 3, 1) := by decide +kernel
theorem dX12_copy_13 : decode cX12_copy 13 = .ok (.invokestatic 343, 3) := by decide +kernel
theorem dX12_copy_16 : decode cX12_copy 16 = .ok (.ifCond .ne 5, 3) := by decide +kernel
theorem dX12_copy_19 : decode cX12_copy 19 = .ok (.iconst (-1), 1) := by decide +kernel
theorem dX12_copy_20 : decode cX12_copy 20 = .ok (.ireturn, 1) := by decide +kernel
theorem dX12_copy_21 : decode cX12_copy 21 = .ok (.aload_n 0, 1) := by decide +kernel
theorem dX12_copy_22 : decode cX12_copy 22 = .ok (.getfield 160, 3) := by decide +kernel
theorem dX12_copy_25 : decode cX12_copy 25 = .ok (.iload_n 1, 1) := by decide +kernel
theorem dX12_copy_26 : decode cX12_copy 26 = .ok (.iaload, 1) := by decide +kernel
theorem dX12_copy_27 : decode cX12_copy 27 = .ok (.ifCond .eq 12, 3) := by decide +kernel
theorem dX12_copy_30 : decode cX12_copy 30 = .ok (.aload_n 0, 1) := by decide +kernel
theorem dX12_copy_31 : decode cX12_copy 31 = .ok (.getfield 160, 3) := by decide +kernel
theorem dX12_copy_34 : decode cX12_copy 34 = .ok (.iload_n 3, 1) := by decide +kernel
theorem dX12_copy_35 : decode cX12_copy 35 = .ok (.iaload, 1) := by decide +kernel
theorem dX12_copy_36 : decode cX12_copy 36 = .ok (.ifCond .ne 6, 3) := by decide +kernel
theorem dX12_copy_39 : decode cX12_copy 39 = .ok (.bipush (-11), 2) := by decide +kernel
theorem dX12_copy_41 : decode cX12_copy 41 = .ok (.ireturn, 1) := by decide +kernel
theorem dX12_copy_42 : decode cX12_copy 42 = .ok (.aload_n 0, 1) := by decide +kernel
theorem dX12_copy_43 : decode cX12_copy 43 = .ok (.getfield 160, 3) := by decide +kernel
theorem dX12_copy_46 : decode cX12_copy 46 = .ok (.iload_n 1, 1) := by decide +kernel
theorem dX12_copy_47 : decode cX12_copy 47 = .ok (.iaload, 1) := by decide +kernel
theorem dX12_copy_48 : decode cX12_copy 48 = .ok (.iconst 3, 1) := by decide +kernel
theorem dX12_copy_49 : decode cX12_copy 49 = .ok (.if_icmp .lt 18, 3) := by decide +kernel
theorem dX12_copy_52 : decode cX12_copy 52 = .ok (.aload_n 0, 1) := by decide +kernel
theorem dX12_copy_53 : decode cX12_copy 53 = .ok (.getfield 160, 3) := by decide +kernel
theorem dX12_copy_56 : decode cX12_copy 56 = .ok (.iload_n 1, 1) := by decide +kernel
theorem dX12_copy_57 : decode cX12_copy 57 = .ok (.iaload, 1) := by decide +kernel
theorem dX12_copy_58 : decode cX12_copy 58 = .ok (.aload_n 0, 1) := by decide +kernel
theorem dX12_copy_59 : decode cX12_copy 59 = .ok (.getfield 160, 3) := by decide +kernel
theorem dX12_copy_62 : decode cX12_copy 62 = .ok (.iload_n 3, 1) := by decide +kernel
theorem dX12_copy_63 : decode cX12_copy 63 = .ok (.iaload, 1) := by decide +kernel
theorem dX12_copy_64 : decode cX12_copy 64 = .ok (.if_icmp .eq 6, 3) := by decide +kernel
theorem dX12_copy_67 : decode cX12_copy 67 = .ok (.bipush (-12), 2) := by decide +kernel
theorem dX12_copy_69 : decode cX12_copy 69 = .ok (.ireturn, 1) := by decide +kernel
theorem dX12_copy_70 : decode cX12_copy 70 = .ok (.aload_n 0, 1) := by decide +kernel
theorem dX12_copy_71 : decode cX12_copy 71 = .ok (.iload_n 1, 1) := by decide +kernel
theorem dX12_copy_72 : decode cX12_copy 72 = .ok (.iload_n 2, 1) := by decide +kernel
theorem dX12_copy_73 : decode cX12_copy 73 = .ok (.iload 5, 2) := by decide +kernel
theorem dX12_copy_75 : decode cX12_copy 75 = .ok (.invokevirtual 349, 3) := by decide +kernel
theorem dX12_copy_78 : decode cX12_copy 78 = .ok (.ifCond .eq 15, 3) := by decide +kernel
theorem dX12_copy_81 : decode cX12_copy 81 = .ok (.aload_n 0, 1) := by decide +kernel
theorem dX12_copy_82 : decode cX12_copy 82 = .ok (.iload_n 3, 1) := by decide +kernel
theorem dX12_copy_83 : decode cX12_copy 83 = .ok (.iload 4, 2) := by decide +kernel
theorem dX12_copy_85 : decode cX12_copy 85 = .ok (.iload 5, 2) := by decide +kernel
theorem dX12_copy_87 : decode cX12_copy 87 = .ok (.invokevirtual 349, 3) := by decide +kernel
theorem dX12_copy_90 : decode cX12_copy 90 = .ok (.ifCond .ne 6, 3) := by decide +kernel
theorem dX12_copy_93 : decode cX12_copy 93 = .ok (.bipush (-13), 2) := by decide +kernel
theorem dX12_copy_95 : decode cX12_copy 95 = .ok (.ireturn, 1) := by decide +kernel
theorem dX12_copy_96 : decode cX12_copy 96 = .ok (.iconst 0, 1) := by decide +kernel
theorem dX12_copy_97 : decode cX12_copy 97 = .ok (.istore 6, 2) := by decide +kernel
theorem dX12_copy_99 : decode cX12_copy 99 = .ok (.iload 6, 2) := by decide +kernel
theorem dX12_copy_101 : decode cX12_copy 101 = .ok (.iload 5, 2) := by decide +kernel
theorem dX12_copy_103 : decode cX12_copy 103 = .ok (.if_icmp .ge 30, 3) := by decide +kernel
theorem dX12_copy_106 : decode cX12_copy 106 = .ok (.aload_n 0, 1) := by decide +kernel
theorem dX12_copy_107 : decode cX12_copy 107 = .ok (.getfield 175, 3) := by decide +kernel
theorem dX12_copy_110 : decode cX12_copy 110 = .ok (.iload 6, 2) := by decide +kernel
theorem dX12_copy_112 : decode cX12_copy 112 = .ok (.aload_n 0, 1) := by decide +kernel
theorem dX12_copy_113 : decode cX12_copy 113 = .ok (.getfield 172, 3) := by decide +kernel
theorem dX12_copy_116 : decode cX12_copy 116 = .ok (.bipush 60, 2) := by decide +kernel
theorem dX12_copy_118 : decode cX12_copy 118 = .ok (.iload_n 1, 1) := by decide +kernel
theorem dX12_copy_119 : decode cX12_copy 119 = .ok (.imul, 1) := by decide +kernel
theorem dX12_copy_120 : decode cX12_copy 120 = .ok (.iload_n 2, 1) := by decide +kernel
theorem dX12_copy_121 : decode cX12_copy 121 = .ok (.iadd, 1) := by decide +kernel
theorem dX12_copy_122 : decode cX12_copy 122 = .ok (.iload 6, 2) := by decide +kernel
theorem dX12_copy_124 : decode cX12_copy 124 = .ok (.iadd, 1) := by decide +kernel
theorem dX12_copy_125 : decode cX12_copy 125 = .ok (.iaload, 1) := by decide +kernel
theorem dX12_copy_126 : decode cX12_copy 126 = .ok (.iastore, 1) := by decide +kernel
theorem dX12_copy_127 : decode cX12_copy 127 = .ok (.iinc 6 1, 3) := by decide +kernel
theorem dX12_copy_130 : decode cX12_copy 130 = .ok (.goto (-31), 3) := by decide +kernel
theorem dX12_copy_133 : decode cX12_copy 133 = .ok (.iconst 0, 1) := by decide +kernel
theorem dX12_copy_134 : decode cX12_copy 134 = .ok (.istore 6, 2) := by decide +kernel
theorem dX12_copy_136 : decode cX12_copy 136 = .ok (.iload 6, 2) := by decide +kernel
theorem dX12_copy_138 : decode cX12_copy 138 = .ok (.iload 5, 2) := by decide +kernel
theorem dX12_copy_140 : decode cX12_copy 140 = .ok (.if_icmp .ge 31, 3) := by decide +kernel
theorem dX12_copy_143 : decode cX12_copy 143 = .ok (.aload_n 0, 1) := by decide +kernel
theorem dX12_copy_144 : decode cX12_copy 144 = .ok (.getfield 172, 3) := by decide +kernel
theorem dX12_copy_147 : decode cX12_copy 147 = .ok (.bipush 60, 2) := by decide +kernel
theorem dX12_copy_149 : decode cX12_copy 149 = .ok (.iload_n 3, 1) := by decide +kernel
theorem dX12_copy_150 : decode cX12_copy 150 = .ok (.imul, 1) := by decide +kernel
theorem dX12_copy_151 : decode cX12_copy 151 = .ok (.iload 4, 2) := by decide +kernel
theorem dX12_copy_153 : decode cX12_copy 153 = .ok (.iadd, 1) := by decide +kernel
theorem dX12_copy_154 : decode cX12_copy 154 = .ok (.iload 6, 2) := by decide +kernel
theorem dX12_copy_156 : decode cX12_copy 156 = .ok (.iadd, 1) := by decide +kernel
theorem dX12_copy_157 : decode cX12_copy 157 = .ok (.aload_n 0, 1) := by decide +kernel
theorem dX12_copy_158 : decode cX12_copy 158 = .ok (.getfield 175, 3) := by decide +kernel
theorem dX12_copy_161 : decode cX12_copy 161 = .ok (.iload 6, 2) := by decide +kernel
theorem dX12_copy_163 : decode cX12_copy 163 = .ok (.iaload, 1) := by decide +kernel
theorem dX12_copy_164 : decode cX12_copy 164 = .ok (.iastore, 1) := by decide +kernel
theorem dX12_copy_165 : decode cX12_copy 165 = .ok (.iinc 6 1, 3) := by decide +kernel
theorem dX12_copy_168 : decode cX12_copy 168 = .ok (.goto (-32), 3) := by decide +kernel
theorem dX12_copy_171 : decode cX12_copy 171 = .ok (.iload 5, 2) := by decide +kernel
theorem dX12_copy_173 : decode cX12_copy 173 = .ok (.ireturn, 1) := by decide +kernel
theorem dX12_denied_0 : decode cX12_denied 0 = .ok (.iload_n 1, 1) := by decide +kernel
theorem dX12_denied_1 : decode cX12_denied 1 = .ok (.invokestatic 343, 3) := by decide +kernel
theorem dX12_denied_4 : decode cX12_denied 4 = .ok (.ifCond .ne 7, 3) := by decide +kernel
theorem dX12_denied_7 : decode cX12_denied 7 = .ok (.iconst (-1), 1) := by decide +kernel
theorem dX12_denied_8 : decode cX12_denied 8 = .ok (.goto 33, 3) := by decide +kernel
theorem dX12_denied_11 : decode cX12_denied 11 = .ok (.aload_n 0, 1) := by decide +kernel
theorem dX12_denied_12 : decode cX12_denied 12 = .ok (.getfield 160, 3) := by decide +kernel
theorem dX12_denied_15 : decode cX12_denied 15 = .ok (.iload_n 1, 1) := by decide +kernel
theorem dX12_denied_16 : decode cX12_denied 16 = .ok (.iaload, 1) := by decide +kernel
theorem dX12_denied_17 : decode cX12_denied 17 = .ok (.ifCond .ne 8, 3) := by decide +kernel
theorem dX12_denied_20 : decode cX12_denied 20 = .ok (.bipush (-11), 2) := by decide +kernel
theorem dX12_denied_22 : decode cX12_denied 22 = .ok (.goto 19, 3) := by decide +kernel
theorem dX12_denied_25 : decode cX12_denied 25 = .ok (.aload_n 0, 1) := by decide +kernel
theorem dX12_denied_26 : decode cX12_denied 26 = .ok (.getfield 160, 3) := by decide +kernel
theorem dX12_denied_29 : decode cX12_denied 29 = .ok (.iload_n 1, 1) := by decide +kernel
theorem dX12_denied_30 : decode cX12_denied 30 = .ok (.iaload, 1) := by decide +kernel
theorem dX12_denied_31 : decode cX12_denied 31 = .ok (.iconst 1, 1) := by decide +kernel
theorem dX12_denied_32 : decode cX12_denied 32 = .ok (.if_icmp .le 8, 3) := by decide +kernel
theorem dX12_denied_35 : decode cX12_denied 35 = .ok (.bipush (-12), 2) := by decide +kernel
theorem dX12_denied_37 : decode cX12_denied 37 = .ok (.goto 4, 3) := by decide +kernel
theorem dX12_denied_40 : decode cX12_denied 40 = .ok (.iconst 0, 1) := by decide +kernel
theorem dX12_denied_41 : decode cX12_denied 41 = .ok (.ireturn, 1) := by decide +kernel
theorem dX12_weight_0 : decode cX12_weight 0 = .ok (.aload_n 0, 1) := by decide +kernel
theorem dX12_weight_1 : decode cX12_weight 1 = .ok (.iconst 0, 1) := by decide +kernel
theorem dX12_weight_2 : decode cX12_weight 2 = .ok (.putfield 194, 3) := by decide +kernel
theorem dX12_weight_5 : decode cX12_weight 5 = .ok (.aload_n 0, 1) := by decide +kernel
theorem dX12_weight_6 : decode cX12_weight 6 = .ok (.iload_n 1, 1) := by decide +kernel
theorem dX12_weight_7 : decode cX12_weight 7 = .ok (.invokevirtual 353, 3) := by decide +kernel
theorem dX12_weight_10 : decode cX12_weight 10 = .ok (.istore_n 2, 1) := by decide +kernel
theorem dX12_weight_11 : decode cX12_weight 11 = .ok (.iload_n 2, 1) := by decide +kernel
theorem dX12_weight_12 : decode cX12_weight 12 = .ok (.ifCond .ge 7, 3) := by decide +kernel
theorem dX12_weight_15 : decode cX12_weight 15 = .ok (.iload_n 2, 1) := by decide +kernel
theorem dX12_weight_16 : decode cX12_weight 16 = .ok (.goto 9, 3) := by decide +kernel
theorem dX12_weight_19 : decode cX12_weight 19 = .ok (.aload_n 0, 1) := by decide +kernel
theorem dX12_weight_20 : decode cX12_weight 20 = .ok (.getfield 166, 3) := by decide +kernel
theorem dX12_weight_23 : decode cX12_weight 23 = .ok (.iload_n 1, 1) := by decide +kernel
theorem dX12_weight_24 : decode cX12_weight 24 = .ok (.iaload, 1) := by decide +kernel
theorem dX12_weight_25 : decode cX12_weight 25 = .ok (.ireturn, 1) := by decide +kernel
theorem dX12_toss_0 : decode cX12_toss 0 = .ok (.aload_n 0, 1) := by decide +kernel
theorem dX12_toss_1 : decode cX12_toss 1 = .ok (.iconst 0, 1) := by decide +kernel
theorem dX12_toss_2 : decode cX12_toss 2 = .ok (.putfield 194, 3) := by decide +kernel
theorem dX12_toss_5 : decode cX12_toss 5 = .ok (.aload_n 0, 1) := by decide +kernel
theorem dX12_toss_6 : decode cX12_toss 6 = .ok (.iload_n 1, 1) := by decide +kernel
theorem dX12_toss_7 : decode cX12_toss 7 = .ok (.invokevirtual 353, 3) := by decide +kernel
theorem dX12_toss_10 : decode cX12_toss 10 = .ok (.istore_n 2, 1) := by decide +kernel
theorem dX12_toss_11 : decode cX12_toss 11 = .ok (.iload_n 2, 1) := by decide +kernel
theorem dX12_toss_12 : decode cX12_toss 12 = .ok (.ifCond .ge 7, 3) := by decide +kernel
theorem dX12_toss_15 : decode cX12_toss 15 = .ok (.iload_n 2, 1) := by decide +kernel
theorem dX12_toss_16 : decode cX12_toss 16 = .ok (.goto 9, 3) := by decide +kernel
theorem dX12_toss_19 : decode cX12_toss 19 = .ok (.aload_n 0, 1) := by decide +kernel
theorem dX12_toss_20 : decode cX12_toss 20 = .ok (.getfield 169, 3) := by decide +kernel
theorem dX12_toss_23 : decode cX12_toss 23 = .ok (.iload_n 1, 1) := by decide +kernel
theorem dX12_toss_24 : decode cX12_toss 24 = .ok (.iaload, 1) := by decide +kernel
theorem dX12_toss_25 : decode cX12_toss 25 = .ok (.ireturn, 1) := by decide +kernel
