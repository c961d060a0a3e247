theorem dL_cell_0 : decode cL_cell 0 = .ok (.aload_n 0, 1) := by decide +kernel
theorem dL_cell_1 : decode cL_cell 1 = .ok (.arraylength, 1) := by decide +kernel
theorem dL_cell_2 : decode cL_cell 2 = .ok (.ifCond .ne 12, 3) := by decide +kernel
theorem dL_cell_5 : decode cL_cell 5 = .ok (.iload_n 1, 1) := by decide +kernel
theorem dL_cell_6 : decode cL_cell 6 = .ok (.bipush 37, 2) := by decide +kernel
theorem dL_cell_8 : decode cL_cell 8 = .ok (.imul, 1) := by decide +kernel
theorem dL_cell_9 : decode cL_cell 9 = .ok (.iconst 5, 1) := by decide +kernel
theorem dL_cell_10 : decode cL_cell 10 = .ok (.iadd, 1) := by decide +kernel
theorem dL_cell_11 : decode cL_cell 11 = .ok (.goto 17, 3) := by decide +kernel
theorem dL_cell_14 : decode cL_cell 14 = .ok (.aload_n 0, 1) := by decide +kernel
theorem dL_cell_15 : decode cL_cell 15 = .ok (.iload_n 1, 1) := by decide +kernel
theorem dL_cell_16 : decode cL_cell 16 = .ok (.aload_n 0, 1) := by decide +kernel
theorem dL_cell_17 : decode cL_cell 17 = .ok (.arraylength, 1) := by decide +kernel
theorem dL_cell_18 : decode cL_cell 18 = .ok (.irem, 1) := by decide +kernel
theorem dL_cell_19 : decode cL_cell 19 = .ok (.iaload, 1) := by decide +kernel
theorem dL_cell_20 : decode cL_cell 20 = .ok (.iload_n 1, 1) := by decide +kernel
theorem dL_cell_21 : decode cL_cell 21 = .ok (.bipush 7, 2) := by decide +kernel
theorem dL_cell_23 : decode cL_cell 23 = .ok (.irem, 1) := by decide +kernel
theorem dL_cell_24 : decode cL_cell 24 = .ok (.ishr, 1) := by decide +kernel
theorem dL_cell_25 : decode cL_cell 25 = .ok (.ldc 7, 2) := by decide +kernel
theorem dL_cell_27 : decode cL_cell 27 = .ok (.iand, 1) := by decide +kernel
theorem dL_cell_28 : decode cL_cell 28 = .ok (.iload_n 2, 1) := by decide +kernel
theorem dL_cell_29 : decode cL_cell 29 = .ok (.irem, 1) := by decide +kernel
theorem dL_cell_30 : decode cL_cell 30 = .ok (.ireturn, 1) := by decide +kernel
theorem dL_limited_0 : decode cL_limited 0 = .ok (.iload_n 0, 1) := by decide +kernel
theorem dL_limited_1 : decode cL_limited 1 = .ok (.iload_n 1, 1) := by decide +kernel
theorem dL_limited_2 : decode cL_limited 2 = .ok (.if_icmp .le 7, 3) := by decide +kernel
theorem dL_limited_5 : decode cL_limited 5 = .ok (.iload_n 1, 1) := by decide +kernel
theorem dL_limited_6 : decode cL_limited 6 = .ok (.goto 15, 3) := by decide +kernel
theorem dL_limited_9 : decode cL_limited 9 = .ok (.iload_n 0, 1) := by decide +kernel
theorem dL_limited_10 : decode cL_limited 10 = .ok (.iload_n 1, 1) := by decide +kernel
theorem dL_limited_11 : decode cL_limited 11 = .ok (.ineg, 1) := by decide +kernel
theorem dL_limited_12 : decode cL_limited 12 = .ok (.if_icmp .ge 8, 3) := by decide +kernel
theorem dL_limited_15 : decode cL_limited 15 = .ok (.iload_n 1, 1) := by decide +kernel
theorem dL_limited_16 : decode cL_limited 16 = .ok (.ineg, 1) := by decide +kernel
theorem dL_limited_17 : decode cL_limited 17 = .ok (.goto 4, 3) := by decide +kernel
theorem dL_limited_20 : decode cL_limited 20 = .ok (.iload_n 0, 1) := by decide +kernel
theorem dL_limited_21 : decode cL_limited 21 = .ok (.ireturn, 1) := by decide +kernel
theorem dL_size_0 : decode cL_size 0 = .ok (.iload_n 0, 1) := by decide +kernel
theorem dL_size_1 : decode cL_size 1 = .ok (.ifCond .ge 8, 3) := by decide +kernel
theorem dL_size_4 : decode cL_size 4 = .ok (.iload_n 0, 1) := by decide +kernel
theorem dL_size_5 : decode cL_size 5 = .ok (.ineg, 1) := by decide +kernel
theorem dL_size_6 : decode cL_size 6 = .ok (.goto 4, 3) := by decide +kernel
theorem dL_size_9 : decode cL_size 9 = .ok (.iload_n 0, 1) := by decide +kernel
theorem dL_size_10 : decode cL_size 10 = .ok (.ireturn, 1) := by decide +kernel
theorem dL_lay_0 : decode cL_lay 0 = .ok (.iconst 0, 1) := by decide +kernel
theorem dL_lay_1 : decode cL_lay 1 = .ok (.istore_n 3, 1) := by decide +kernel
theorem dL_lay_2 : decode cL_lay 2 = .ok (.iload_n 3, 1) := by decide +kernel
theorem dL_lay_3 : decode cL_lay 3 = .ok (.bipush 14, 2) := by decide +kernel
theorem dL_lay_5 : decode cL_lay 5 = .ok (.if_icmp .ge 18, 3) := by decide +kernel
theorem dL_lay_8 : decode cL_lay 8 = .ok (.aload_n 2, 1) := by decide +kernel
theorem dL_lay_9 : decode cL_lay 9 = .ok (.iload_n 3, 1) := by decide +kernel
theorem dL_lay_10 : decode cL_lay 10 = .ok (.aload_n 0, 1) := by decide +kernel
theorem dL_lay_11 : decode cL_lay 11 = .ok (.iload_n 1, 1) := by decide +kernel
theorem dL_lay_12 : decode cL_lay 12 = .ok (.iload_n 3, 1) := by decide +kernel
theorem dL_lay_13 : decode cL_lay 13 = .ok (.invokevirtual 8, 3) := by decide +kernel
theorem dL_lay_16 : decode cL_lay 16 = .ok (.iastore, 1) := by decide +kernel
theorem dL_lay_17 : decode cL_lay 17 = .ok (.iinc 3 1, 3) := by decide +kernel
theorem dL_lay_20 : decode cL_lay 20 = .ok (.goto (-18), 3) := by decide +kernel
theorem dL_lay_23 : decode cL_lay 23 = .ok (.return_, 1) := by decide +kernel
theorem dL_value_0 : decode cL_value 0 = .ok (.aload_n 0, 1) := by decide +kernel
theorem dL_value_1 : decode cL_value 1 = .ok (.bipush 10, 2) := by decide +kernel
theorem dL_value_3 : decode cL_value 3 = .ok (.iaload, 1) := by decide +kernel
theorem dL_value_4 : decode cL_value 4 = .ok (.ifCond .ne 7, 3) := by decide +kernel
theorem dL_value_7 : decode cL_value 7 = .ok (.iconst 0, 1) := by decide +kernel
theorem dL_value_8 : decode cL_value 8 = .ok (.goto 15, 3) := by decide +kernel
theorem dL_value_11 : decode cL_value 11 = .ok (.aload_n 1, 1) := by decide +kernel
theorem dL_value_12 : decode cL_value 12 = .ok (.iconst 0, 1) := by decide +kernel
theorem dL_value_13 : decode cL_value 13 = .ok (.iaload, 1) := by decide +kernel
theorem dL_value_14 : decode cL_value 14 = .ok (.aload_n 0, 1) := by decide +kernel
theorem dL_value_15 : decode cL_value 15 = .ok (.bipush 10, 2) := by decide +kernel
theorem dL_value_17 : decode cL_value 17 = .ok (.iaload, 1) := by decide +kernel
theorem dL_value_18 : decode cL_value 18 = .ok (.imul, 1) := by decide +kernel
theorem dL_value_19 : decode cL_value 19 = .ok (.aload_n 1, 1) := by decide +kernel
theorem dL_value_20 : decode cL_value 20 = .ok (.iconst 1, 1) := by decide +kernel
theorem dL_value_21 : decode cL_value 21 = .ok (.iaload, 1) := by decide +kernel
theorem dL_value_22 : decode cL_value 22 = .ok (.idiv, 1) := by decide +kernel
theorem dL_value_23 : decode cL_value 23 = .ok (.ireturn, 1) := by decide +kernel
theorem dL_isPrinted_0 : decode cL_isPrinted 0 = .ok (.aload 4, 2) := by decide +kernel
theorem dL_isPrinted_2 : decode cL_isPrinted 2 = .ok (.iload 6, 2) := by decide +kernel
theorem dL_isPrinted_4 : decode cL_isPrinted 4 = .ok (.aload_n 2, 1) := by decide +kernel
theorem dL_isPrinted_5 : decode cL_isPrinted 5 = .ok (.iconst 0, 1) := by decide +kernel
theorem dL_isPrinted_6 : decode cL_isPrinted 6 = .ok (.iaload, 1) := by decide +kernel
theorem dL_isPrinted_7 : decode cL_isPrinted 7 = .ok (.aload_n 2, 1) := by decide +kernel
theorem dL_isPrinted_8 : decode cL_isPrinted 8 = .ok (.aload_n 3, 1) := by decide +kernel
theorem dL_isPrinted_9 : decode cL_isPrinted 9 = .ok (.invokestatic 16, 3) := by decide +kernel
theorem dL_isPrinted_12 : decode cL_isPrinted 12 = .ok (.iadd, 1) := by decide +kernel
theorem dL_isPrinted_13 : decode cL_isPrinted 13 = .ok (.aload_n 0, 1) := by decide +kernel
theorem dL_isPrinted_14 : decode cL_isPrinted 14 = .ok (.iload_n 1, 1) := by decide +kernel
theorem dL_isPrinted_15 : decode cL_isPrinted 15 = .ok (.bipush 10, 2) := by decide +kernel
theorem dL_isPrinted_17 : decode cL_isPrinted 17 = .ok (.invokevirtual 20, 3) := by decide +kernel
theorem dL_isPrinted_20 : decode cL_isPrinted 20 = .ok (.aload_n 2, 1) := by decide +kernel
theorem dL_isPrinted_21 : decode cL_isPrinted 21 = .ok (.iconst 3, 1) := by decide +kernel
theorem dL_isPrinted_22 : decode cL_isPrinted 22 = .ok (.iaload, 1) := by decide +kernel
theorem dL_isPrinted_23 : decode cL_isPrinted 23 = .ok (.isub, 1) := by decide +kernel
theorem dL_isPrinted_24 : decode cL_isPrinted 24 = .ok (.iload 7, 2) := by decide +kernel
theorem dL_isPrinted_26 : decode cL_isPrinted 26 = .ok (.imul, 1) := by decide +kernel
theorem dL_isPrinted_27 : decode cL_isPrinted 27 = .ok (.bipush 100, 2) := by decide +kernel
theorem dL_isPrinted_29 : decode cL_isPrinted 29 = .ok (.idiv, 1) := by decide +kernel
theorem dL_isPrinted_30 : decode cL_isPrinted 30 = .ok (.iadd, 1) := by decide +kernel
theorem dL_isPrinted_31 : decode cL_isPrinted 31 = .ok (.iastore, 1) := by decide +kernel
theorem dL_isPrinted_32 : decode cL_isPrinted 32 = .ok (.aload 5, 2) := by decide +kernel
theorem dL_isPrinted_34 : decode cL_isPrinted 34 = .ok (.iload 6, 2) := by decide +kernel
theorem dL_isPrinted_36 : decode cL_isPrinted 36 = .ok (.aload_n 2, 1) := by decide +kernel
theorem dL_isPrinted_37 : decode cL_isPrinted 37 = .ok (.iconst 2, 1) := by decide +kernel
theorem dL_isPrinted_38 : decode cL_isPrinted 38 = .ok (.iaload, 1) := by decide +kernel
theorem dL_isPrinted_39 : decode cL_isPrinted 39 = .ok (.aload_n 2, 1) := by decide +kernel
theorem dL_isPrinted_40 : decode cL_isPrinted 40 = .ok (.iconst 1, 1) := by decide +kernel
theorem dL_isPrinted_41 : decode cL_isPrinted 41 = .ok (.iaload, 1) := by decide +kernel
theorem dL_isPrinted_42 : decode cL_isPrinted 42 = .ok (.iadd, 1) := by decide +kernel
theorem dL_isPrinted_43 : decode cL_isPrinted 43 = .ok (.iastore, 1) := by decide +kernel
theorem dL_isPrinted_44 : decode cL_isPrinted 44 = .ok (.aload_n 0, 1) := by decide +kernel
theorem dL_isPrinted_45 : decode cL_isPrinted 45 = .ok (.iload_n 1, 1) := by decide +kernel
theorem dL_isPrinted_46 : decode cL_isPrinted 46 = .ok (.iconst 0, 1) := by decide +kernel
theorem dL_isPrinted_47 : decode cL_isPrinted 47 = .ok (.invokevirtual 23, 3) := by decide +kernel
theorem dL_isPrinted_50 : decode cL_isPrinted 50 = .ok (.aload 4, 2) := by decide +kernel
theorem dL_isPrinted_52 : decode cL_isPrinted 52 = .ok (.iload 6, 2) := by decide +kernel
theorem dL_isPrinted_54 : decode cL_isPrinted 54 = .ok (.iaload, 1) := by decide +kernel
theorem dL_isPrinted_55 : decode cL_isPrinted 55 = .ok (.if_icmp .ne 21, 3) := by decide +kernel
theorem dL_isPrinted_58 : decode cL_isPrinted 58 = .ok (.aload_n 0, 1) := by decide +kernel
theorem dL_isPrinted_59 : decode cL_isPrinted 59 = .ok (.iload_n 1, 1) := by decide +kernel
theorem dL_isPrinted_60 : decode cL_isPrinted 60 = .ok (.iconst 1, 1) := by decide +kernel
theorem dL_isPrinted_61 : decode cL_isPrinted 61 = .ok (.invokevirtual 23, 3) := by decide +kernel
theorem dL_isPrinted_64 : decode cL_isPrinted 64 = .ok (.aload 5, 2) := by decide +kernel
theorem dL_isPrinted_66 : decode cL_isPrinted 66 = .ok (.iload 6, 2) := by decide +kernel
theorem dL_isPrinted_68 : decode cL_isPrinted 68 = .ok (.iaload, 1) := by decide +kernel
theorem dL_isPrinted_69 : decode cL_isPrinted 69 = .ok (.if_icmp .ne 7, 3) := by decide +kernel
theorem dL_isPrinted_72 : decode cL_isPrinted 72 = .ok (.iconst 1, 1) := by decide +kernel
theorem dL_isPrinted_73 : decode cL_isPrinted 73 = .ok (.goto 4, 3) := by decide +kernel
theorem dL_isPrinted_76 : decode cL_isPrinted 76 = .ok (.iconst 0, 1) := by decide +kernel
theorem dL_isPrinted_77 : decode cL_isPrinted 77 = .ok (.ireturn, 1) := by decide +kernel
theorem dL_isSeen_0 : decode cL_isSeen 0 = .ok (.aload_n 0, 1) := by decide +kernel
theorem dL_isSeen_1 : decode cL_isSeen 1 = .ok (.iload_n 1, 1) := by decide +kernel
theorem dL_isSeen_2 : decode cL_isSeen 2 = .ok (.iconst 2, 1) := by decide +kernel
theorem dL_isSeen_3 : decode cL_isSeen 3 = .ok (.invokevirtual 20, 3) := by decide +kernel
theorem dL_isSeen_6 : decode cL_isSeen 6 = .ok (.aload_n 2, 1) := by decide +kernel
theorem dL_isSeen_7 : decode cL_isSeen 7 = .ok (.bipush 6, 2) := by decide +kernel
theorem dL_isSeen_9 : decode cL_isSeen 9 = .ok (.iaload, 1) := by decide +kernel
theorem dL_isSeen_10 : decode cL_isSeen 10 = .ok (.aload_n 0, 1) := by decide +kernel
theorem dL_isSeen_11 : decode cL_isSeen 11 = .ok (.iload_n 1, 1) := by decide +kernel
theorem dL_isSeen_12 : decode cL_isSeen 12 = .ok (.iconst 3, 1) := by decide +kernel
theorem dL_isSeen_13 : decode cL_isSeen 13 = .ok (.invokevirtual 20, 3) := by decide +kernel
theorem dL_isSeen_16 : decode cL_isSeen 16 = .ok (.if_icmp .ge 10, 3) := by decide +kernel
theorem dL_isSeen_19 : decode cL_isSeen 19 = .ok (.aload_n 2, 1) := by decide +kernel
theorem dL_isSeen_20 : decode cL_isSeen 20 = .ok (.bipush 7, 2) := by decide +kernel
theorem dL_isSeen_22 : decode cL_isSeen 22 = .ok (.iaload, 1) := by decide +kernel
theorem dL_isSeen_23 : decode cL_isSeen 23 = .ok (.ifCond .le 7, 3) := by decide +kernel
theorem dL_isSeen_26 : decode cL_isSeen 26 = .ok (.iconst 4, 1) := by decide +kernel
theorem dL_isSeen_27 : decode cL_isSeen 27 = .ok (.goto 4, 3) := by decide +kernel
theorem dL_isSeen_30 : decode cL_isSeen 30 = .ok (.iconst 1, 1) := by decide +kernel
theorem dL_isSeen_31 : decode cL_isSeen 31 = .ok (.imul, 1) := by decide +kernel
theorem dL_isSeen_32 : decode cL_isSeen 32 = .ok (.istore 7, 2) := by decide +kernel
theorem dL_isSeen_34 : decode cL_isSeen 34 = .ok (.iload 4, 2) := by decide +kernel
theorem dL_isSeen_36 : decode cL_isSeen 36 = .ok (.aload_n 2, 1) := by decide +kernel
theorem dL_isSeen_37 : decode cL_isSeen 37 = .ok (.bipush 8, 2) := by decide +kernel
theorem dL_isSeen_39 : decode cL_isSeen 39 = .ok (.iaload, 1) := by decide +kernel
theorem dL_isSeen_40 : decode cL_isSeen 40 = .ok (.isub, 1) := by decide +kernel
theorem dL_isSeen_41 : decode cL_isSeen 41 = .ok (.invokestatic 26, 3) := by decide +kernel
theorem dL_isSeen_44 : decode cL_isSeen 44 = .ok (.istore 8, 2) := by decide +kernel
theorem dL_isSeen_46 : decode cL_isSeen 46 = .ok (.aload_n 3, 1) := by decide +kernel
theorem dL_isSeen_47 : decode cL_isSeen 47 = .ok (.iconst 4, 1) := by decide +kernel
theorem dL_isSeen_48 : decode cL_isSeen 48 = .ok (.iaload, 1) := by decide +kernel
theorem dL_isSeen_49 : decode cL_isSeen 49 = .ok (.aload_n 2, 1) := by decide +kernel
theorem dL_isSeen_50 : decode cL_isSeen 50 = .ok (.bipush 8, 2) := by decide +kernel
theorem dL_isSeen_52 : decode cL_isSeen 52 = .ok (.iaload, 1) := by decide +kernel
theorem dL_isSeen_53 : decode cL_isSeen 53 = .ok (.isub, 1) := by decide +kernel
theorem dL_isSeen_54 : decode cL_isSeen 54 = .ok (.invokestatic 26, 3) := by decide +kernel
theorem dL_isSeen_57 : decode cL_isSeen 57 = .ok (.istore 9, 2) := by decide +kernel
theorem dL_isSeen_59 : decode cL_isSeen 59 = .ok (.aload_n 2, 1) := by decide +kernel
theorem dL_isSeen_60 : decode cL_isSeen 60 = .ok (.bipush 11, 2) := by decide +kernel
theorem dL_isSeen_62 : decode cL_isSeen 62 = .ok (.iaload, 1) := by decide +kernel
theorem dL_isSeen_63 : decode cL_isSeen 63 = .ok (.ifCond .ne 14, 3) := by decide +kernel
theorem dL_isSeen_66 : decode cL_isSeen 66 = .ok (.iload 8, 2) := by decide +kernel
theorem dL_isSeen_68 : decode cL_isSeen 68 = .ok (.iload 7, 2) := by decide +kernel
theorem dL_isSeen_70 : decode cL_isSeen 70 = .ok (.if_icmp .gt 7, 3) := by decide +kernel
theorem dL_isSeen_73 : decode cL_isSeen 73 = .ok (.iconst 1, 1) := by decide +kernel
theorem dL_isSeen_74 : decode cL_isSeen 74 = .ok (.goto 4, 3) := by decide +kernel
theorem dL_isSeen_77 : decode cL_isSeen 77 = .ok (.iconst 0, 1) := by decide +kernel
theorem dL_isSeen_78 : decode cL_isSeen 78 = .ok (.istore 10, 2) := by decide +kernel
theorem dL_isSeen_80 : decode cL_isSeen 80 = .ok (.aload_n 2, 1) := by decide +kernel
theorem dL_isSeen_81 : decode cL_isSeen 81 = .ok (.bipush 12, 2) := by decide +kernel
theorem dL_isSeen_83 : decode cL_isSeen 83 = .ok (.iaload, 1) := by decide +kernel
theorem dL_isSeen_84 : decode cL_isSeen 84 = .ok (.ifCond .le 14, 3) := by decide +kernel
theorem dL_isSeen_87 : decode cL_isSeen 87 = .ok (.iload 9, 2) := by decide +kernel
theorem dL_isSeen_89 : decode cL_isSeen 89 = .ok (.iload 7, 2) := by decide +kernel
theorem dL_isSeen_91 : decode cL_isSeen 91 = .ok (.if_icmp .gt 7, 3) := by decide +kernel
theorem dL_isSeen_94 : decode cL_isSeen 94 = .ok (.iconst 1, 1) := by decide +kernel
theorem dL_isSeen_95 : decode cL_isSeen 95 = .ok (.goto 4, 3) := by decide +kernel
theorem dL_isSeen_98 : decode cL_isSeen 98 = .ok (.iconst 0, 1) := by decide +kernel
theorem dL_isSeen_99 : decode cL_isSeen 99 = .ok (.istore 11, 2) := by decide +kernel
theorem dL_isSeen_101 : decode cL_isSeen 101 = .ok (.iload 10, 2) := by decide +kernel
theorem dL_isSeen_103 : decode cL_isSeen 103 = .ok (.ifCond .eq 23, 3) := by decide +kernel
theorem dL_isSeen_106 : decode cL_isSeen 106 = .ok (.iload 11, 2) := by decide +kernel
theorem dL_isSeen_108 : decode cL_isSeen 108 = .ok (.ifCond .eq 18, 3) := by decide +kernel
theorem dL_isSeen_111 : decode cL_isSeen 111 = .ok (.iload 8, 2) := by decide +kernel
theorem dL_isSeen_113 : decode cL_isSeen 113 = .ok (.iload 9, 2) := by decide +kernel
theorem dL_isSeen_115 : decode cL_isSeen 115 = .ok (.if_icmp .gt 7, 3) := by decide +kernel
theorem dL_isSeen_118 : decode cL_isSeen 118 = .ok (.iconst 1, 1) := by decide +kernel
theorem dL_isSeen_119 : decode cL_isSeen 119 = .ok (.goto 26, 3) := by decide +kernel
theorem dL_isSeen_122 : decode cL_isSeen 122 = .ok (.iconst 2, 1) := by decide +kernel
theorem dL_isSeen_123 : decode cL_isSeen 123 = .ok (.goto 22, 3) := by decide +kernel
theorem dL_isSeen_126 : decode cL_isSeen 126 = .ok (.iload 10, 2) := by decide +kernel
theorem dL_isSeen_128 : decode cL_isSeen 128 = .ok (.ifCond .eq 7, 3) := by decide +kernel
theorem dL_isSeen_131 : decode cL_isSeen 131 = .ok (.iconst 1, 1) := by decide +kernel
theorem dL_isSeen_132 : decode cL_isSeen 132 = .ok (.goto 13, 3) := by decide +kernel
theorem dL_isSeen_135 : decode cL_isSeen 135 = .ok (.iload 11, 2) := by decide +kernel
theorem dL_isSeen_137 : decode cL_isSeen 137 = .ok (.ifCond .eq 7, 3) := by decide +kernel
theorem dL_isSeen_140 : decode cL_isSeen 140 = .ok (.iconst 2, 1) := by decide +kernel
theorem dL_isSeen_141 : decode cL_isSeen 141 = .ok (.goto 4, 3) := by decide +kernel
theorem dL_isSeen_144 : decode cL_isSeen 144 = .ok (.iconst 0, 1) := by decide +kernel
theorem dL_isSeen_145 : decode cL_isSeen 145 = .ok (.istore 12, 2) := by decide +kernel
theorem dL_isSeen_147 : decode cL_isSeen 147 = .ok (.aload_n 0, 1) := by decide +kernel
theorem dL_isSeen_148 : decode cL_isSeen 148 = .ok (.iload_n 1, 1) := by decide +kernel
theorem dL_isSeen_149 : decode cL_isSeen 149 = .ok (.iconst 2, 1) := by decide +kernel
theorem dL_isSeen_150 : decode cL_isSeen 150 = .ok (.invokevirtual 23, 3) := by decide +kernel
theorem dL_isSeen_153 : decode cL_isSeen 153 = .ok (.iload 4, 2) := by decide +kernel
theorem dL_isSeen_155 : decode cL_isSeen 155 = .ok (.if_icmp .ne 25, 3) := by decide +kernel
theorem dL_isSeen_158 : decode cL_isSeen 158 = .ok (.aload_n 0, 1) := by decide +kernel
theorem dL_isSeen_159 : decode cL_isSeen 159 = .ok (.iload_n 1, 1) := by decide +kernel
theorem dL_isSeen_160 : decode cL_isSeen 160 = .ok (.iconst 3, 1) := by decide +kernel
theorem dL_isSeen_161 : decode cL_isSeen 161 = .ok (.invokevirtual 23, 3) := by decide +kernel
theorem dL_isSeen_164 : decode cL_isSeen 164 = .ok (.iload 5, 2) := by decide +kernel
theorem dL_isSeen_166 : decode cL_isSeen 166 = .ok (.if_icmp .ne 14, 3) := by decide +kernel
theorem dL_isSeen_169 : decode cL_isSeen 169 = .ok (.aload_n 0, 1) := by decide +kernel
theorem dL_isSeen_170 : decode cL_isSeen 170 = .ok (.iload_n 1, 1) := by decide +kernel
theorem dL_isSeen_171 : decode cL_isSeen 171 = .ok (.iconst 4, 1) := by decide +kernel
theorem dL_isSeen_172 : decode cL_isSeen 172 = .ok (.invokevirtual 23, 3) := by decide +kernel
theorem dL_isSeen_175 : decode cL_isSeen 175 = .ok (.iload 12, 2) := by decide +kernel
theorem dL_isSeen_177 : decode cL_isSeen 177 = .ok (.if_icmp .eq 5, 3) := by decide +kernel
theorem dL_isSeen_180 : decode cL_isSeen 180 = .ok (.iconst 0, 1) := by decide +kernel
theorem dL_isSeen_181 : decode cL_isSeen 181 = .ok (.ireturn, 1) := by decide +kernel
theorem dL_isSeen_182 : decode cL_isSeen 182 = .ok (.iload 12, 2) := by decide +kernel
theorem dL_isSeen_184 : decode cL_isSeen 184 = .ok (.ifCond .ne 40, 3) := by decide +kernel
theorem dL_isSeen_187 : decode cL_isSeen 187 = .ok (.aload_n 2, 1) := by decide +kernel
theorem dL_isSeen_188 : decode cL_isSeen 188 = .ok (.bipush 6, 2) := by decide +kernel
theorem dL_isSeen_190 : decode cL_isSeen 190 = .ok (.dup2, 1) := by decide +kernel
theorem dL_isSeen_191 : decode cL_isSeen 191 = .ok (.iaload, 1) := by decide +kernel
theorem dL_isSeen_192 : decode cL_isSeen 192 = .ok (.iconst 1, 1) := by decide +kernel
theorem dL_isSeen_193 : decode cL_isSeen 193 = .ok (.iadd, 1) := by decide +kernel
theorem dL_isSeen_194 : decode cL_isSeen 194 = .ok (.iastore, 1) := by decide +kernel
theorem dL_isSeen_195 : decode cL_isSeen 195 = .ok (.aload_n 0, 1) := by decide +kernel
theorem dL_isSeen_196 : decode cL_isSeen 196 = .ok (.iload_n 1, 1) := by decide +kernel
theorem dL_isSeen_197 : decode cL_isSeen 197 = .ok (.iconst 5, 1) := by decide +kernel
theorem dL_isSeen_198 : decode cL_isSeen 198 = .ok (.invokevirtual 23, 3) := by decide +kernel
theorem dL_isSeen_201 : decode cL_isSeen 201 = .ok (.ldc 30, 2) := by decide +kernel
theorem dL_isSeen_203 : decode cL_isSeen 203 = .ok (.if_icmp .ne 19, 3) := by decide +kernel
theorem dL_isSeen_206 : decode cL_isSeen 206 = .ok (.aload_n 0, 1) := by decide +kernel
theorem dL_isSeen_207 : decode cL_isSeen 207 = .ok (.iload_n 1, 1) := by decide +kernel
theorem dL_isSeen_208 : decode cL_isSeen 208 = .ok (.bipush 6, 2) := by decide +kernel
theorem dL_isSeen_210 : decode cL_isSeen 210 = .ok (.invokevirtual 23, 3) := by decide +kernel
theorem dL_isSeen_213 : decode cL_isSeen 213 = .ok (.ldc 30, 2) := by decide +kernel
theorem dL_isSeen_215 : decode cL_isSeen 215 = .ok (.if_icmp .ne 7, 3) := by decide +kernel
theorem dL_isSeen_218 : decode cL_isSeen 218 = .ok (.iconst 1, 1) := by decide +kernel
theorem dL_isSeen_219 : decode cL_isSeen 219 = .ok (.goto 4, 3) := by decide +kernel
theorem dL_isSeen_222 : decode cL_isSeen 222 = .ok (.iconst 0, 1) := by decide +kernel
theorem dL_isSeen_223 : decode cL_isSeen 223 = .ok (.ireturn, 1) := by decide +kernel
theorem dL_isSeen_224 : decode cL_isSeen 224 = .ok (.iload 12, 2) := by decide +kernel
theorem dL_isSeen_226 : decode cL_isSeen 226 = .ok (.iconst 1, 1) := by decide +kernel
theorem dL_isSeen_227 : decode cL_isSeen 227 = .ok (.if_icmp .ne 8, 3) := by decide +kernel
theorem dL_isSeen_230 : decode cL_isSeen 230 = .ok (.iload 4, 2) := by decide +kernel
theorem dL_isSeen_232 : decode cL_isSeen 232 = .ok (.goto 6, 3) := by decide +kernel
theorem dL_isSeen_235 : decode cL_isSeen 235 = .ok (.aload_n 3, 1) := by decide +kernel
theorem dL_isSeen_236 : decode cL_isSeen 236 = .ok (.iconst 4, 1) := by decide +kernel
theorem dL_isSeen_237 : decode cL_isSeen 237 = .ok (.iaload, 1) := by decide +kernel
theorem dL_isSeen_238 : decode cL_isSeen 238 = .ok (.istore 13, 2) := by decide +kernel
theorem dL_isSeen_240 : decode cL_isSeen 240 = .ok (.iload 12, 2) := by decide +kernel
theorem dL_isSeen_242 : decode cL_isSeen 242 = .ok (.iconst 1, 1) := by decide +kernel
theorem dL_isSeen_243 : decode cL_isSeen 243 = .ok (.if_icmp .ne 8, 3) := by decide +kernel
theorem dL_isSeen_246 : decode cL_isSeen 246 = .ok (.iload 5, 2) := by decide +kernel
theorem dL_isSeen_248 : decode cL_isSeen 248 = .ok (.goto 7, 3) := by decide +kernel
theorem dL_isSeen_251 : decode cL_isSeen 251 = .ok (.aload_n 2, 1) := by decide +kernel
theorem dL_isSeen_252 : decode cL_isSeen 252 = .ok (.bipush 9, 2) := by decide +kernel
theorem dL_isSeen_254 : decode cL_isSeen 254 = .ok (.iaload, 1) := by decide +kernel
theorem dL_isSeen_255 : decode cL_isSeen 255 = .ok (.istore 14, 2) := by decide +kernel
theorem dL_isSeen_257 : decode cL_isSeen 257 = .ok (.aload_n 0, 1) := by decide +kernel
theorem dL_isSeen_258 : decode cL_isSeen 258 = .ok (.iload_n 1, 1) := by decide +kernel
theorem dL_isSeen_259 : decode cL_isSeen 259 = .ok (.iconst 5, 1) := by decide +kernel
theorem dL_isSeen_260 : decode cL_isSeen 260 = .ok (.invokevirtual 23, 3) := by decide +kernel
theorem dL_isSeen_263 : decode cL_isSeen 263 = .ok (.iload 13, 2) := by decide +kernel
theorem dL_isSeen_265 : decode cL_isSeen 265 = .ok (.if_icmp .ne 15, 3) := by decide +kernel
theorem dL_isSeen_268 : decode cL_isSeen 268 = .ok (.aload_n 0, 1) := by decide +kernel
theorem dL_isSeen_269 : decode cL_isSeen 269 = .ok (.iload_n 1, 1) := by decide +kernel
theorem dL_isSeen_270 : decode cL_isSeen 270 = .ok (.bipush 6, 2) := by decide +kernel
theorem dL_isSeen_272 : decode cL_isSeen 272 = .ok (.invokevirtual 23, 3) := by decide +kernel
theorem dL_isSeen_275 : decode cL_isSeen 275 = .ok (.iload 14, 2) := by decide +kernel
theorem dL_isSeen_277 : decode cL_isSeen 277 = .ok (.if_icmp .eq 5, 3) := by decide +kernel
theorem dL_isSeen_280 : decode cL_isSeen 280 = .ok (.iconst 0, 1) := by decide +kernel
theorem dL_isSeen_281 : decode cL_isSeen 281 = .ok (.ireturn, 1) := by decide +kernel
theorem dL_isSeen_282 : decode cL_isSeen 282 = .ok (.aload_n 2, 1) := by decide +kernel
theorem dL_isSeen_283 : decode cL_isSeen 283 = .ok (.bipush 6, 2) := by decide +kernel
theorem dL_isSeen_285 : decode cL_isSeen 285 = .ok (.iconst 0, 1) := by decide +kernel
theorem dL_isSeen_286 : decode cL_isSeen 286 = .ok (.iastore, 1) := by decide +kernel
theorem dL_isSeen_287 : decode cL_isSeen 287 = .ok (.aload_n 0, 1) := by decide +kernel
theorem dL_isSeen_288 : decode cL_isSeen 288 = .ok (.iload_n 1, 1) := by decide +kernel
theorem dL_isSeen_289 : decode cL_isSeen 289 = .ok (.bipush 8, 2) := by decide +kernel
theorem dL_isSeen_291 : decode cL_isSeen 291 = .ok (.invokevirtual 20, 3) := by decide +kernel
theorem dL_isSeen_294 : decode cL_isSeen 294 = .ok (.istore 15, 2) := by decide +kernel
theorem dL_isSeen_296 : decode cL_isSeen 296 = .ok (.iload 6, 2) := by decide +kernel
theorem dL_isSeen_298 : decode cL_isSeen 298 = .ok (.invokestatic 26, 3) := by decide +kernel
theorem dL_isSeen_301 : decode cL_isSeen 301 = .ok (.bipush 9, 2) := by decide +kernel
theorem dL_isSeen_303 : decode cL_isSeen 303 = .ok (.if_icmp .le 41, 3) := by decide +kernel
theorem dL_isSeen_306 : decode cL_isSeen 306 = .ok (.iload 15, 2) := by decide +kernel
theorem dL_isSeen_308 : decode cL_isSeen 308 = .ok (.ifCond .le 36, 3) := by decide +kernel
theorem dL_isSeen_311 : decode cL_isSeen 311 = .ok (.aload_n 2, 1) := by decide +kernel
theorem dL_isSeen_312 : decode cL_isSeen 312 = .ok (.iconst 3, 1) := by decide +kernel
theorem dL_isSeen_313 : decode cL_isSeen 313 = .ok (.aload_n 2, 1) := by decide +kernel
theorem dL_isSeen_314 : decode cL_isSeen 314 = .ok (.iconst 3, 1) := by decide +kernel
theorem dL_isSeen_315 : decode cL_isSeen 315 = .ok (.iaload, 1) := by decide +kernel
theorem dL_isSeen_316 : decode cL_isSeen 316 = .ok (.iload 13, 2) := by decide +kernel
theorem dL_isSeen_318 : decode cL_isSeen 318 = .ok (.aload_n 2, 1) := by decide +kernel
theorem dL_isSeen_319 : decode cL_isSeen 319 = .ok (.bipush 8, 2) := by decide +kernel
theorem dL_isSeen_321 : decode cL_isSeen 321 = .ok (.iaload, 1) := by decide +kernel
theorem dL_isSeen_322 : decode cL_isSeen 322 = .ok (.isub, 1) := by decide +kernel
theorem dL_isSeen_323 : decode cL_isSeen 323 = .ok (.bipush 100, 2) := by decide +kernel
theorem dL_isSeen_325 : decode cL_isSeen 325 = .ok (.imul, 1) := by decide +kernel
theorem dL_isSeen_326 : decode cL_isSeen 326 = .ok (.iload 6, 2) := by decide +kernel
theorem dL_isSeen_328 : decode cL_isSeen 328 = .ok (.idiv, 1) := by decide +kernel
theorem dL_isSeen_329 : decode cL_isSeen 329 = .ok (.iload 15, 2) := by decide +kernel
theorem dL_isSeen_331 : decode cL_isSeen 331 = .ok (.imul, 1) := by decide +kernel
theorem dL_isSeen_332 : decode cL_isSeen 332 = .ok (.sipush 256, 3) := by decide +kernel
theorem dL_isSeen_335 : decode cL_isSeen 335 = .ok (.idiv, 1) := by decide +kernel
theorem dL_isSeen_336 : decode cL_isSeen 336 = .ok (.iadd, 1) := by decide +kernel
theorem dL_isSeen_337 : decode cL_isSeen 337 = .ok (.sipush 500, 3) := by decide +kernel
theorem dL_isSeen_340 : decode cL_isSeen 340 = .ok (.invokestatic 31, 3) := by decide +kernel
theorem dL_isSeen_343 : decode cL_isSeen 343 = .ok (.iastore, 1) := by decide +kernel
theorem dL_isSeen_344 : decode cL_isSeen 344 = .ok (.aload_n 2, 1) := by decide +kernel
theorem dL_isSeen_345 : decode cL_isSeen 345 = .ok (.bipush 8, 2) := by decide +kernel
theorem dL_isSeen_347 : decode cL_isSeen 347 = .ok (.iload 13, 2) := by decide +kernel
theorem dL_isSeen_349 : decode cL_isSeen 349 = .ok (.iastore, 1) := by decide +kernel
theorem dL_isSeen_350 : decode cL_isSeen 350 = .ok (.aload_n 2, 1) := by decide +kernel
theorem dL_isSeen_351 : decode cL_isSeen 351 = .ok (.bipush 9, 2) := by decide +kernel
theorem dL_isSeen_353 : decode cL_isSeen 353 = .ok (.iload 14, 2) := by decide +kernel
theorem dL_isSeen_355 : decode cL_isSeen 355 = .ok (.iastore, 1) := by decide +kernel
theorem dL_isSeen_356 : decode cL_isSeen 356 = .ok (.aload_n 0, 1) := by decide +kernel
theorem dL_isSeen_357 : decode cL_isSeen 357 = .ok (.iload_n 1, 1) := by decide +kernel
theorem dL_isSeen_358 : decode cL_isSeen 358 = .ok (.bipush 6, 2) := by decide +kernel
theorem dL_isSeen_360 : decode cL_isSeen 360 = .ok (.invokevirtual 20, 3) := by decide +kernel
theorem dL_isSeen_363 : decode cL_isSeen 363 = .ok (.istore 16, 2) := by decide +kernel
theorem dL_isSeen_365 : decode cL_isSeen 365 = .ok (.aload_n 0, 1) := by decide +kernel
theorem dL_isSeen_366 : decode cL_isSeen 366 = .ok (.iload_n 1, 1) := by decide +kernel
theorem dL_isSeen_367 : decode cL_isSeen 367 = .ok (.iconst 4, 1) := by decide +kernel
theorem dL_isSeen_368 : decode cL_isSeen 368 = .ok (.invokevirtual 20, 3) := by decide +kernel
theorem dL_isSeen_371 : decode cL_isSeen 371 = .ok (.istore 17, 2) := by decide +kernel
theorem dL_isSeen_373 : decode cL_isSeen 373 = .ok (.aload_n 0, 1) := by decide +kernel
theorem dL_isSeen_374 : decode cL_isSeen 374 = .ok (.iload_n 1, 1) := by decide +kernel
theorem dL_isSeen_375 : decode cL_isSeen 375 = .ok (.bipush 7, 2) := by decide +kernel
theorem dL_isSeen_377 : decode cL_isSeen 377 = .ok (.invokevirtual 20, 3) := by decide +kernel
theorem dL_isSeen_380 : decode cL_isSeen 380 = .ok (.istore 18, 2) := by decide +kernel
theorem dL_isSeen_382 : decode cL_isSeen 382 = .ok (.aload_n 2, 1) := by decide +kernel
theorem dL_isSeen_383 : decode cL_isSeen 383 = .ok (.iconst 5, 1) := by decide +kernel
theorem dL_isSeen_384 : decode cL_isSeen 384 = .ok (.iaload, 1) := by decide +kernel
theorem dL_isSeen_385 : decode cL_isSeen 385 = .ok (.ifCond .ne 162, 3) := by decide +kernel
theorem dL_isSeen_388 : decode cL_isSeen 388 = .ok (.iload 13, 2) := by decide +kernel
theorem dL_isSeen_390 : decode cL_isSeen 390 = .ok (.invokestatic 26, 3) := by decide +kernel
theorem dL_isSeen_393 : decode cL_isSeen 393 = .ok (.iload 16, 2) := by decide +kernel
theorem dL_isSeen_395 : decode cL_isSeen 395 = .ok (.if_icmp .gt 13, 3) := by decide +kernel
theorem dL_isSeen_398 : decode cL_isSeen 398 = .ok (.iload 14, 2) := by decide +kernel
theorem dL_isSeen_400 : decode cL_isSeen 400 = .ok (.invokestatic 26, 3) := by decide +kernel
theorem dL_isSeen_403 : decode cL_isSeen 403 = .ok (.iload 16, 2) := by decide +kernel
theorem dL_isSeen_405 : decode cL_isSeen 405 = .ok (.if_icmp .le 142, 3) := by decide +kernel
theorem dL_isSeen_408 : decode cL_isSeen 408 = .ok (.aload_n 2, 1) := by decide +kernel
theorem dL_isSeen_409 : decode cL_isSeen 409 = .ok (.iconst 0, 1) := by decide +kernel
theorem dL_isSeen_410 : decode cL_isSeen 410 = .ok (.iaload, 1) := by decide +kernel
theorem dL_isSeen_411 : decode cL_isSeen 411 = .ok (.istore 19, 2) := by decide +kernel
theorem dL_isSeen_413 : decode cL_isSeen 413 = .ok (.aload_n 2, 1) := by decide +kernel
theorem dL_isSeen_414 : decode cL_isSeen 414 = .ok (.iconst 1, 1) := by decide +kernel
theorem dL_isSeen_415 : decode cL_isSeen 415 = .ok (.iaload, 1) := by decide +kernel
theorem dL_isSeen_416 : decode cL_isSeen 416 = .ok (.istore 20, 2) := by decide +kernel
theorem dL_isSeen_418 : decode cL_isSeen 418 = .ok (.iload 13, 2) := by decide +kernel
theorem dL_isSeen_420 : decode cL_isSeen 420 = .ok (.invokestatic 26, 3) := by decide +kernel
theorem dL_isSeen_423 : decode cL_isSeen 423 = .ok (.iload 16, 2) := by decide +kernel
theorem dL_isSeen_425 : decode cL_isSeen 425 = .ok (.if_icmp .le 56, 3) := by decide +kernel
theorem dL_isSeen_428 : decode cL_isSeen 428 = .ok (.aload_n 2, 1) := by decide +kernel
theorem dL_isSeen_429 : decode cL_isSeen 429 = .ok (.iconst 4, 1) := by decide +kernel
theorem dL_isSeen_430 : decode cL_isSeen 430 = .ok (.aload_n 2, 1) := by decide +kernel
theorem dL_isSeen_431 : decode cL_isSeen 431 = .ok (.iconst 4, 1) := by decide +kernel
theorem dL_isSeen_432 : decode cL_isSeen 432 = .ok (.iaload, 1) := by decide +kernel
theorem dL_isSeen_433 : decode cL_isSeen 433 = .ok (.iload 13, 2) := by decide +kernel
theorem dL_isSeen_435 : decode cL_isSeen 435 = .ok (.iadd, 1) := by decide +kernel
theorem dL_isSeen_436 : decode cL_isSeen 436 = .ok (.sipush 20000, 3) := by decide +kernel
theorem dL_isSeen_439 : decode cL_isSeen 439 = .ok (.invokestatic 31, 3) := by decide +kernel
theorem dL_isSeen_442 : decode cL_isSeen 442 = .ok (.iastore, 1) := by decide +kernel
theorem dL_isSeen_443 : decode cL_isSeen 443 = .ok (.aload_n 2, 1) := by decide +kernel
theorem dL_isSeen_444 : decode cL_isSeen 444 = .ok (.iconst 0, 1) := by decide +kernel
theorem dL_isSeen_445 : decode cL_isSeen 445 = .ok (.iload 19, 2) := by decide +kernel
theorem dL_isSeen_447 : decode cL_isSeen 447 = .ok (.iload 17, 2) := by decide +kernel
theorem dL_isSeen_449 : decode cL_isSeen 449 = .ok (.iload 13, 2) := by decide +kernel
theorem dL_isSeen_451 : decode cL_isSeen 451 = .ok (.imul, 1) := by decide +kernel
theorem dL_isSeen_452 : decode cL_isSeen 452 = .ok (.aload_n 0, 1) := by decide +kernel
theorem dL_isSeen_453 : decode cL_isSeen 453 = .ok (.iload_n 1, 1) := by decide +kernel
theorem dL_isSeen_454 : decode cL_isSeen 454 = .ok (.iconst 5, 1) := by decide +kernel
theorem dL_isSeen_455 : decode cL_isSeen 455 = .ok (.invokevirtual 20, 3) := by decide +kernel
theorem dL_isSeen_458 : decode cL_isSeen 458 = .ok (.aload_n 2, 1) := by decide +kernel
theorem dL_isSeen_459 : decode cL_isSeen 459 = .ok (.iconst 4, 1) := by decide +kernel
theorem dL_isSeen_460 : decode cL_isSeen 460 = .ok (.iaload, 1) := by decide +kernel
theorem dL_isSeen_461 : decode cL_isSeen 461 = .ok (.imul, 1) := by decide +kernel
theorem dL_isSeen_462 : decode cL_isSeen 462 = .ok (.iadd, 1) := by decide +kernel
theorem dL_isSeen_463 : decode cL_isSeen 463 = .ok (.ineg, 1) := by decide +kernel
theorem dL_isSeen_464 : decode cL_isSeen 464 = .ok (.sipush 256, 3) := by decide +kernel
theorem dL_isSeen_467 : decode cL_isSeen 467 = .ok (.idiv, 1) := by decide +kernel
theorem dL_isSeen_468 : decode cL_isSeen 468 = .ok (.iload 18, 2) := by decide +kernel
theorem dL_isSeen_470 : decode cL_isSeen 470 = .ok (.invokestatic 31, 3) := by decide +kernel
theorem dL_isSeen_473 : decode cL_isSeen 473 = .ok (.iadd, 1) := by decide +kernel
theorem dL_isSeen_474 : decode cL_isSeen 474 = .ok (.sipush 5000, 3) := by decide +kernel
theorem dL_isSeen_477 : decode cL_isSeen 477 = .ok (.invokestatic 31, 3) := by decide +kernel
theorem dL_isSeen_480 : decode cL_isSeen 480 = .ok (.iastore, 1) := by decide +kernel
theorem dL_isSeen_481 : decode cL_isSeen 481 = .ok (.iload 14, 2) := by decide +kernel
theorem dL_isSeen_483 : decode cL_isSeen 483 = .ok (.invokestatic 26, 3) := by decide +kernel
theorem dL_isSeen_486 : decode cL_isSeen 486 = .ok (.iload 16, 2) := by decide +kernel
theorem dL_isSeen_488 : decode cL_isSeen 488 = .ok (.if_icmp .le 30, 3) := by decide +kernel
theorem dL_isSeen_491 : decode cL_isSeen 491 = .ok (.aload_n 2, 1) := by decide +kernel
theorem dL_isSeen_492 : decode cL_isSeen 492 = .ok (.iconst 1, 1) := by decide +kernel
theorem dL_isSeen_493 : decode cL_isSeen 493 = .ok (.iload 20, 2) := by decide +kernel
theorem dL_isSeen_495 : decode cL_isSeen 495 = .ok (.iload 17, 2) := by decide +kernel
theorem dL_isSeen_497 : decode cL_isSeen 497 = .ok (.iload 14, 2) := by decide +kernel
theorem dL_isSeen_499 : decode cL_isSeen 499 = .ok (.imul, 1) := by decide +kernel
theorem dL_isSeen_500 : decode cL_isSeen 500 = .ok (.ineg, 1) := by decide +kernel
theorem dL_isSeen_501 : decode cL_isSeen 501 = .ok (.sipush 256, 3) := by decide +kernel
theorem dL_isSeen_504 : decode cL_isSeen 504 = .ok (.idiv, 1) := by decide +kernel
theorem dL_isSeen_505 : decode cL_isSeen 505 = .ok (.iload 18, 2) := by decide +kernel
theorem dL_isSeen_507 : decode cL_isSeen 507 = .ok (.invokestatic 31, 3) := by decide +kernel
theorem dL_isSeen_510 : decode cL_isSeen 510 = .ok (.iadd, 1) := by decide +kernel
theorem dL_isSeen_511 : decode cL_isSeen 511 = .ok (.sipush 3000, 3) := by decide +kernel
theorem dL_isSeen_514 : decode cL_isSeen 514 = .ok (.invokestatic 31, 3) := by decide +kernel
theorem dL_isSeen_517 : decode cL_isSeen 517 = .ok (.iastore, 1) := by decide +kernel
theorem dL_isSeen_518 : decode cL_isSeen 518 = .ok (.aload_n 3, 1) := by decide +kernel
theorem dL_isSeen_519 : decode cL_isSeen 519 = .ok (.iconst 2, 1) := by decide +kernel
theorem dL_isSeen_520 : decode cL_isSeen 520 = .ok (.aload_n 2, 1) := by decide +kernel
theorem dL_isSeen_521 : decode cL_isSeen 521 = .ok (.iconst 0, 1) := by decide +kernel
theorem dL_isSeen_522 : decode cL_isSeen 522 = .ok (.iaload, 1) := by decide +kernel
theorem dL_isSeen_523 : decode cL_isSeen 523 = .ok (.iload 19, 2) := by decide +kernel
theorem dL_isSeen_525 : decode cL_isSeen 525 = .ok (.isub, 1) := by decide +kernel
theorem dL_isSeen_526 : decode cL_isSeen 526 = .ok (.iastore, 1) := by decide +kernel
theorem dL_isSeen_527 : decode cL_isSeen 527 = .ok (.aload_n 3, 1) := by decide +kernel
theorem dL_isSeen_528 : decode cL_isSeen 528 = .ok (.iconst 3, 1) := by decide +kernel
theorem dL_isSeen_529 : decode cL_isSeen 529 = .ok (.aload_n 2, 1) := by decide +kernel
theorem dL_isSeen_530 : decode cL_isSeen 530 = .ok (.iconst 1, 1) := by decide +kernel
theorem dL_isSeen_531 : decode cL_isSeen 531 = .ok (.iaload, 1) := by decide +kernel
theorem dL_isSeen_532 : decode cL_isSeen 532 = .ok (.iload 20, 2) := by decide +kernel
theorem dL_isSeen_534 : decode cL_isSeen 534 = .ok (.isub, 1) := by decide +kernel
theorem dL_isSeen_535 : decode cL_isSeen 535 = .ok (.iastore, 1) := by decide +kernel
theorem dL_isSeen_536 : decode cL_isSeen 536 = .ok (.aload_n 2, 1) := by decide +kernel
theorem dL_isSeen_537 : decode cL_isSeen 537 = .ok (.iconst 5, 1) := by decide +kernel
theorem dL_isSeen_538 : decode cL_isSeen 538 = .ok (.aload_n 0, 1) := by decide +kernel
theorem dL_isSeen_539 : decode cL_isSeen 539 = .ok (.iload_n 1, 1) := by decide +kernel
theorem dL_isSeen_540 : decode cL_isSeen 540 = .ok (.iconst 1, 1) := by decide +kernel
theorem dL_isSeen_541 : decode cL_isSeen 541 = .ok (.invokevirtual 20, 3) := by decide +kernel
theorem dL_isSeen_544 : decode cL_isSeen 544 = .ok (.iconst 1, 1) := by decide +kernel
theorem dL_isSeen_545 : decode cL_isSeen 545 = .ok (.iadd, 1) := by decide +kernel
theorem dL_isSeen_546 : decode cL_isSeen 546 = .ok (.iastore, 1) := by decide +kernel
theorem dL_isSeen_547 : decode cL_isSeen 547 = .ok (.iconst 1, 1) := by decide +kernel
theorem dL_isSeen_548 : decode cL_isSeen 548 = .ok (.ireturn, 1) := by decide +kernel
theorem dL_isPassed_0 : decode cL_isPassed 0 = .ok (.aload_n 2, 1) := by decide +kernel
theorem dL_isPassed_1 : decode cL_isPassed 1 = .ok (.iconst 5, 1) := by decide +kernel
theorem dL_isPassed_2 : decode cL_isPassed 2 = .ok (.iaload, 1) := by decide +kernel
theorem dL_isPassed_3 : decode cL_isPassed 3 = .ok (.ifCond .le 50, 3) := by decide +kernel
theorem dL_isPassed_6 : decode cL_isPassed 6 = .ok (.aload_n 2, 1) := by decide +kernel
theorem dL_isPassed_7 : decode cL_isPassed 7 = .ok (.iconst 5, 1) := by decide +kernel
theorem dL_isPassed_8 : decode cL_isPassed 8 = .ok (.dup2, 1) := by decide +kernel
theorem dL_isPassed_9 : decode cL_isPassed 9 = .ok (.iaload, 1) := by decide +kernel
theorem dL_isPassed_10 : decode cL_isPassed 10 = .ok (.iconst 1, 1) := by decide +kernel
theorem dL_isPassed_11 : decode cL_isPassed 11 = .ok (.isub, 1) := by decide +kernel
theorem dL_isPassed_12 : decode cL_isPassed 12 = .ok (.iastore, 1) := by decide +kernel
theorem dL_isPassed_13 : decode cL_isPassed 13 = .ok (.aload_n 2, 1) := by decide +kernel
theorem dL_isPassed_14 : decode cL_isPassed 14 = .ok (.bipush 8, 2) := by decide +kernel
theorem dL_isPassed_16 : decode cL_isPassed 16 = .ok (.dup2, 1) := by decide +kernel
theorem dL_isPassed_17 : decode cL_isPassed 17 = .ok (.iaload, 1) := by decide +kernel
theorem dL_isPassed_18 : decode cL_isPassed 18 = .ok (.aload_n 2, 1) := by decide +kernel
theorem dL_isPassed_19 : decode cL_isPassed 19 = .ok (.iconst 5, 1) := by decide +kernel
theorem dL_isPassed_20 : decode cL_isPassed 20 = .ok (.iaload, 1) := by decide +kernel
theorem dL_isPassed_21 : decode cL_isPassed 21 = .ok (.ifCond .ne 9, 3) := by decide +kernel
theorem dL_isPassed_24 : decode cL_isPassed 24 = .ok (.aload_n 3, 1) := by decide +kernel
theorem dL_isPassed_25 : decode cL_isPassed 25 = .ok (.iconst 2, 1) := by decide +kernel
theorem dL_isPassed_26 : decode cL_isPassed 26 = .ok (.iaload, 1) := by decide +kernel
theorem dL_isPassed_27 : decode cL_isPassed 27 = .ok (.goto 4, 3) := by decide +kernel
theorem dL_isPassed_30 : decode cL_isPassed 30 = .ok (.iconst 0, 1) := by decide +kernel
theorem dL_isPassed_31 : decode cL_isPassed 31 = .ok (.iadd, 1) := by decide +kernel
theorem dL_isPassed_32 : decode cL_isPassed 32 = .ok (.iastore, 1) := by decide +kernel
theorem dL_isPassed_33 : decode cL_isPassed 33 = .ok (.aload_n 2, 1) := by decide +kernel
theorem dL_isPassed_34 : decode cL_isPassed 34 = .ok (.bipush 9, 2) := by decide +kernel
theorem dL_isPassed_36 : decode cL_isPassed 36 = .ok (.dup2, 1) := by decide +kernel
theorem dL_isPassed_37 : decode cL_isPassed 37 = .ok (.iaload, 1) := by decide +kernel
theorem dL_isPassed_38 : decode cL_isPassed 38 = .ok (.aload_n 2, 1) := by decide +kernel
theorem dL_isPassed_39 : decode cL_isPassed 39 = .ok (.iconst 5, 1) := by decide +kernel
theorem dL_isPassed_40 : decode cL_isPassed 40 = .ok (.iaload, 1) := by decide +kernel
theorem dL_isPassed_41 : decode cL_isPassed 41 = .ok (.ifCond .ne 9, 3) := by decide +kernel
theorem dL_isPassed_44 : decode cL_isPassed 44 = .ok (.aload_n 3, 1) := by decide +kernel
theorem dL_isPassed_45 : decode cL_isPassed 45 = .ok (.iconst 3, 1) := by decide +kernel
theorem dL_isPassed_46 : decode cL_isPassed 46 = .ok (.iaload, 1) := by decide +kernel
theorem dL_isPassed_47 : decode cL_isPassed 47 = .ok (.goto 4, 3) := by decide +kernel
theorem dL_isPassed_50 : decode cL_isPassed 50 = .ok (.iconst 0, 1) := by decide +kernel
theorem dL_isPassed_51 : decode cL_isPassed 51 = .ok (.iadd, 1) := by decide +kernel
theorem dL_isPassed_52 : decode cL_isPassed 52 = .ok (.iastore, 1) := by decide +kernel
theorem dL_isPassed_53 : decode cL_isPassed 53 = .ok (.aload_n 2, 1) := by decide +kernel
theorem dL_isPassed_54 : decode cL_isPassed 54 = .ok (.bipush 7, 2) := by decide +kernel
theorem dL_isPassed_56 : decode cL_isPassed 56 = .ok (.dup2, 1) := by decide +kernel
theorem dL_isPassed_57 : decode cL_isPassed 57 = .ok (.iaload, 1) := by decide +kernel
theorem dL_isPassed_58 : decode cL_isPassed 58 = .ok (.aload_n 2, 1) := by decide +kernel
theorem dL_isPassed_59 : decode cL_isPassed 59 = .ok (.bipush 7, 2) := by decide +kernel
theorem dL_isPassed_61 : decode cL_isPassed 61 = .ok (.iaload, 1) := by decide +kernel
theorem dL_isPassed_62 : decode cL_isPassed 62 = .ok (.ifCond .le 7, 3) := by decide +kernel
theorem dL_isPassed_65 : decode cL_isPassed 65 = .ok (.iconst 1, 1) := by decide +kernel
theorem dL_isPassed_66 : decode cL_isPassed 66 = .ok (.goto 4, 3) := by decide +kernel
theorem dL_isPassed_69 : decode cL_isPassed 69 = .ok (.iconst 0, 1) := by decide +kernel
theorem dL_isPassed_70 : decode cL_isPassed 70 = .ok (.isub, 1) := by decide +kernel
theorem dL_isPassed_71 : decode cL_isPassed 71 = .ok (.iastore, 1) := by decide +kernel
theorem dL_isPassed_72 : decode cL_isPassed 72 = .ok (.bipush 10, 2) := by decide +kernel
theorem dL_isPassed_74 : decode cL_isPassed 74 = .ok (.istore 4, 2) := by decide +kernel
theorem dL_isPassed_76 : decode cL_isPassed 76 = .ok (.iload 4, 2) := by decide +kernel
theorem dL_isPassed_78 : decode cL_isPassed 78 = .ok (.bipush 13, 2) := by decide +kernel
theorem dL_isPassed_80 : decode cL_isPassed 80 = .ok (.if_icmp .ge 28, 3) := by decide +kernel
theorem dL_isPassed_83 : decode cL_isPassed 83 = .ok (.aload_n 2, 1) := by decide +kernel
theorem dL_isPassed_84 : decode cL_isPassed 84 = .ok (.iload 4, 2) := by decide +kernel
theorem dL_isPassed_86 : decode cL_isPassed 86 = .ok (.dup2, 1) := by decide +kernel
theorem dL_isPassed_87 : decode cL_isPassed 87 = .ok (.iaload, 1) := by decide +kernel
theorem dL_isPassed_88 : decode cL_isPassed 88 = .ok (.aload_n 2, 1) := by decide +kernel
theorem dL_isPassed_89 : decode cL_isPassed 89 = .ok (.iload 4, 2) := by decide +kernel
theorem dL_isPassed_91 : decode cL_isPassed 91 = .ok (.iaload, 1) := by decide +kernel
theorem dL_isPassed_92 : decode cL_isPassed 92 = .ok (.ifCond .le 7, 3) := by decide +kernel
theorem dL_isPassed_95 : decode cL_isPassed 95 = .ok (.iconst 1, 1) := by decide +kernel
theorem dL_isPassed_96 : decode cL_isPassed 96 = .ok (.goto 4, 3) := by decide +kernel
theorem dL_isPassed_99 : decode cL_isPassed 99 = .ok (.iconst 0, 1) := by decide +kernel
theorem dL_isPassed_100 : decode cL_isPassed 100 = .ok (.isub, 1) := by decide +kernel
theorem dL_isPassed_101 : decode cL_isPassed 101 = .ok (.iastore, 1) := by decide +kernel
theorem dL_isPassed_102 : decode cL_isPassed 102 = .ok (.iinc 4 1, 3) := by decide +kernel
theorem dL_isPassed_105 : decode cL_isPassed 105 = .ok (.goto (-29), 3) := by decide +kernel
theorem dL_isPassed_108 : decode cL_isPassed 108 = .ok (.iconst 0, 1) := by decide +kernel
theorem dL_isPassed_109 : decode cL_isPassed 109 = .ok (.istore 4, 2) := by decide +kernel
theorem dL_isPassed_111 : decode cL_isPassed 111 = .ok (.iload 4, 2) := by decide +kernel
theorem dL_isPassed_113 : decode cL_isPassed 113 = .ok (.bipush 14, 2) := by decide +kernel
theorem dL_isPassed_115 : decode cL_isPassed 115 = .ok (.if_icmp .ge 25, 3) := by decide +kernel
theorem dL_isPassed_118 : decode cL_isPassed 118 = .ok (.aload_n 0, 1) := by decide +kernel
theorem dL_isPassed_119 : decode cL_isPassed 119 = .ok (.iload_n 1, 1) := by decide +kernel
theorem dL_isPassed_120 : decode cL_isPassed 120 = .ok (.iload 4, 2) := by decide +kernel
theorem dL_isPassed_122 : decode cL_isPassed 122 = .ok (.invokevirtual 8, 3) := by decide +kernel
theorem dL_isPassed_125 : decode cL_isPassed 125 = .ok (.aload_n 2, 1) := by decide +kernel
theorem dL_isPassed_126 : decode cL_isPassed 126 = .ok (.iload 4, 2) := by decide +kernel
theorem dL_isPassed_128 : decode cL_isPassed 128 = .ok (.iaload, 1) := by decide +kernel
theorem dL_isPassed_129 : decode cL_isPassed 129 = .ok (.if_icmp .eq 5, 3) := by decide +kernel
theorem dL_isPassed_132 : decode cL_isPassed 132 = .ok (.iconst 0, 1) := by decide +kernel
theorem dL_isPassed_133 : decode cL_isPassed 133 = .ok (.ireturn, 1) := by decide +kernel
theorem dL_isPassed_134 : decode cL_isPassed 134 = .ok (.iinc 4 1, 3) := by decide +kernel
theorem dL_isPassed_137 : decode cL_isPassed 137 = .ok (.goto (-26), 3) := by decide +kernel
theorem dL_isPassed_140 : decode cL_isPassed 140 = .ok (.iconst 1, 1) := by decide +kernel
theorem dL_isPassed_141 : decode cL_isPassed 141 = .ok (.ireturn, 1) := by decide +kernel
theorem dL_settings_0 : decode cL_settings 0 = .ok (.aload_n 0, 1) := by decide +kernel
theorem dL_settings_1 : decode cL_settings 1 = .ok (.iload_n 2, 1) := by decide +kernel
theorem dL_settings_2 : decode cL_settings 2 = .ok (.iconst 0, 1) := by decide +kernel
theorem dL_settings_3 : decode cL_settings 3 = .ok (.iconst 1, 1) := by decide +kernel
theorem dL_settings_4 : decode cL_settings 4 = .ok (.aload_n 1, 1) := by decide +kernel
theorem dL_settings_5 : decode cL_settings 5 = .ok (.iload_n 3, 1) := by decide +kernel
theorem dL_settings_6 : decode cL_settings 6 = .ok (.bipush 6, 2) := by decide +kernel
theorem dL_settings_8 : decode cL_settings 8 = .ok (.invokestatic 34, 3) := by decide +kernel
theorem dL_settings_11 : decode cL_settings 11 = .ok (.iadd, 1) := by decide +kernel
theorem dL_settings_12 : decode cL_settings 12 = .ok (.invokevirtual 38, 3) := by decide +kernel
theorem dL_settings_15 : decode cL_settings 15 = .ok (.pop, 1) := by decide +kernel
theorem dL_settings_16 : decode cL_settings 16 = .ok (.aload_n 0, 1) := by decide +kernel
theorem dL_settings_17 : decode cL_settings 17 = .ok (.iload_n 2, 1) := by decide +kernel
theorem dL_settings_18 : decode cL_settings 18 = .ok (.iconst 1, 1) := by decide +kernel
theorem dL_settings_19 : decode cL_settings 19 = .ok (.iconst 1, 1) := by decide +kernel
theorem dL_settings_20 : decode cL_settings 20 = .ok (.aload_n 1, 1) := by decide +kernel
theorem dL_settings_21 : decode cL_settings 21 = .ok (.iload_n 3, 1) := by decide +kernel
theorem dL_settings_22 : decode cL_settings 22 = .ok (.iconst 1, 1) := by decide +kernel
theorem dL_settings_23 : decode cL_settings 23 = .ok (.iadd, 1) := by decide +kernel
theorem dL_settings_24 : decode cL_settings 24 = .ok (.iconst 4, 1) := by decide +kernel
theorem dL_settings_25 : decode cL_settings 25 = .ok (.invokestatic 34, 3) := by decide +kernel
theorem dL_settings_28 : decode cL_settings 28 = .ok (.iadd, 1) := by decide +kernel
theorem dL_settings_29 : decode cL_settings 29 = .ok (.invokevirtual 38, 3) := by decide +kernel
theorem dL_settings_32 : decode cL_settings 32 = .ok (.pop, 1) := by decide +kernel
theorem dL_settings_33 : decode cL_settings 33 = .ok (.aload_n 0, 1) := by decide +kernel
theorem dL_settings_34 : decode cL_settings 34 = .ok (.iload_n 2, 1) := by decide +kernel
theorem dL_settings_35 : decode cL_settings 35 = .ok (.iconst 2, 1) := by decide +kernel
theorem dL_settings_36 : decode cL_settings 36 = .ok (.iconst 5, 1) := by decide +kernel
theorem dL_settings_37 : decode cL_settings 37 = .ok (.aload_n 1, 1) := by decide +kernel
theorem dL_settings_38 : decode cL_settings 38 = .ok (.iload_n 3, 1) := by decide +kernel
theorem dL_settings_39 : decode cL_settings 39 = .ok (.iconst 2, 1) := by decide +kernel
theorem dL_settings_40 : decode cL_settings 40 = .ok (.iadd, 1) := by decide +kernel
theorem dL_settings_41 : decode cL_settings 41 = .ok (.sipush 400, 3) := by decide +kernel
theorem dL_settings_44 : decode cL_settings 44 = .ok (.invokestatic 34, 3) := by decide +kernel
theorem dL_settings_47 : decode cL_settings 47 = .ok (.iadd, 1) := by decide +kernel
theorem dL_settings_48 : decode cL_settings 48 = .ok (.invokevirtual 38, 3) := by decide +kernel
theorem dL_settings_51 : decode cL_settings 51 = .ok (.pop, 1) := by decide +kernel
theorem dL_settings_52 : decode cL_settings 52 = .ok (.aload_n 0, 1) := by decide +kernel
theorem dL_settings_53 : decode cL_settings 53 = .ok (.iload_n 2, 1) := by decide +kernel
theorem dL_settings_54 : decode cL_settings 54 = .ok (.iconst 3, 1) := by decide +kernel
theorem dL_settings_55 : decode cL_settings 55 = .ok (.iconst 1, 1) := by decide +kernel
theorem dL_settings_56 : decode cL_settings 56 = .ok (.aload_n 1, 1) := by decide +kernel
theorem dL_settings_57 : decode cL_settings 57 = .ok (.iload_n 3, 1) := by decide +kernel
theorem dL_settings_58 : decode cL_settings 58 = .ok (.iconst 3, 1) := by decide +kernel
theorem dL_settings_59 : decode cL_settings 59 = .ok (.iadd, 1) := by decide +kernel
theorem dL_settings_60 : decode cL_settings 60 = .ok (.iconst 5, 1) := by decide +kernel
theorem dL_settings_61 : decode cL_settings 61 = .ok (.invokestatic 34, 3) := by decide +kernel
theorem dL_settings_64 : decode cL_settings 64 = .ok (.iadd, 1) := by decide +kernel
theorem dL_settings_65 : decode cL_settings 65 = .ok (.invokevirtual 38, 3) := by decide +kernel
theorem dL_settings_68 : decode cL_settings 68 = .ok (.pop, 1) := by decide +kernel
theorem dL_settings_69 : decode cL_settings 69 = .ok (.aload_n 0, 1) := by decide +kernel
theorem dL_settings_70 : decode cL_settings 70 = .ok (.iload_n 2, 1) := by decide +kernel
theorem dL_settings_71 : decode cL_settings 71 = .ok (.iconst 4, 1) := by decide +kernel
theorem dL_settings_72 : decode cL_settings 72 = .ok (.aload_n 1, 1) := by decide +kernel
theorem dL_settings_73 : decode cL_settings 73 = .ok (.iload_n 3, 1) := by decide +kernel
theorem dL_settings_74 : decode cL_settings 74 = .ok (.iconst 4, 1) := by decide +kernel
theorem dL_settings_75 : decode cL_settings 75 = .ok (.iadd, 1) := by decide +kernel
theorem dL_settings_76 : decode cL_settings 76 = .ok (.sipush 257, 3) := by decide +kernel
theorem dL_settings_79 : decode cL_settings 79 = .ok (.invokestatic 34, 3) := by decide +kernel
theorem dL_settings_82 : decode cL_settings 82 = .ok (.invokevirtual 38, 3) := by decide +kernel
theorem dL_settings_85 : decode cL_settings 85 = .ok (.pop, 1) := by decide +kernel
theorem dL_settings_86 : decode cL_settings 86 = .ok (.aload_n 0, 1) := by decide +kernel
theorem dL_settings_87 : decode cL_settings 87 = .ok (.iload_n 2, 1) := by decide +kernel
theorem dL_settings_88 : decode cL_settings 88 = .ok (.iconst 5, 1) := by decide +kernel
theorem dL_settings_89 : decode cL_settings 89 = .ok (.aload_n 1, 1) := by decide +kernel
theorem dL_settings_90 : decode cL_settings 90 = .ok (.iload_n 3, 1) := by decide +kernel
theorem dL_settings_91 : decode cL_settings 91 = .ok (.iconst 5, 1) := by decide +kernel
theorem dL_settings_92 : decode cL_settings 92 = .ok (.iadd, 1) := by decide +kernel
theorem dL_settings_93 : decode cL_settings 93 = .ok (.bipush 40, 2) := by decide +kernel
theorem dL_settings_95 : decode cL_settings 95 = .ok (.invokestatic 34, 3) := by decide +kernel
theorem dL_settings_98 : decode cL_settings 98 = .ok (.invokevirtual 38, 3) := by decide +kernel
theorem dL_settings_101 : decode cL_settings 101 = .ok (.pop, 1) := by decide +kernel
theorem dL_settings_102 : decode cL_settings 102 = .ok (.aload_n 0, 1) := by decide +kernel
theorem dL_settings_103 : decode cL_settings 103 = .ok (.iload_n 2, 1) := by decide +kernel
theorem dL_settings_104 : decode cL_settings 104 = .ok (.bipush 6, 2) := by decide +kernel
theorem dL_settings_106 : decode cL_settings 106 = .ok (.aload_n 1, 1) := by decide +kernel
theorem dL_settings_107 : decode cL_settings 107 = .ok (.iload_n 3, 1) := by decide +kernel
theorem dL_settings_108 : decode cL_settings 108 = .ok (.bipush 6, 2) := by decide +kernel
theorem dL_settings_110 : decode cL_settings 110 = .ok (.iadd, 1) := by decide +kernel
theorem dL_settings_111 : decode cL_settings 111 = .ok (.bipush 20, 2) := by decide +kernel
theorem dL_settings_113 : decode cL_settings 113 = .ok (.invokestatic 34, 3) := by decide +kernel
theorem dL_settings_116 : decode cL_settings 116 = .ok (.invokevirtual 38, 3) := by decide +kernel
theorem dL_settings_119 : decode cL_settings 119 = .ok (.pop, 1) := by decide +kernel
theorem dL_settings_120 : decode cL_settings 120 = .ok (.aload_n 0, 1) := by decide +kernel
theorem dL_settings_121 : decode cL_settings 121 = .ok (.iload_n 2, 1) := by decide +kernel
theorem dL_settings_122 : decode cL_settings 122 = .ok (.bipush 7, 2) := by decide +kernel
theorem dL_settings_124 : decode cL_settings 124 = .ok (.bipush 20, 2) := by decide +kernel
theorem dL_settings_126 : decode cL_settings 126 = .ok (.aload_n 1, 1) := by decide +kernel
theorem dL_settings_127 : decode cL_settings 127 = .ok (.iload_n 3, 1) := by decide +kernel
theorem dL_settings_128 : decode cL_settings 128 = .ok (.bipush 7, 2) := by decide +kernel
theorem dL_settings_130 : decode cL_settings 130 = .ok (.iadd, 1) := by decide +kernel
theorem dL_settings_131 : decode cL_settings 131 = .ok (.sipush 400, 3) := by decide +kernel
theorem dL_settings_134 : decode cL_settings 134 = .ok (.invokestatic 34, 3) := by decide +kernel
theorem dL_settings_137 : decode cL_settings 137 = .ok (.iadd, 1) := by decide +kernel
theorem dL_settings_138 : decode cL_settings 138 = .ok (.invokevirtual 38, 3) := by decide +kernel
theorem dL_settings_141 : decode cL_settings 141 = .ok (.pop, 1) := by decide +kernel
theorem dL_settings_142 : decode cL_settings 142 = .ok (.aload_n 0, 1) := by decide +kernel
theorem dL_settings_143 : decode cL_settings 143 = .ok (.iload_n 2, 1) := by decide +kernel
theorem dL_settings_144 : decode cL_settings 144 = .ok (.bipush 8, 2) := by decide +kernel
theorem dL_settings_146 : decode cL_settings 146 = .ok (.aload_n 1, 1) := by decide +kernel
theorem dL_settings_147 : decode cL_settings 147 = .ok (.iload_n 3, 1) := by decide +kernel
theorem dL_settings_148 : decode cL_settings 148 = .ok (.bipush 8, 2) := by decide +kernel
theorem dL_settings_150 : decode cL_settings 150 = .ok (.iadd, 1) := by decide +kernel
theorem dL_settings_151 : decode cL_settings 151 = .ok (.sipush 257, 3) := by decide +kernel
theorem dL_settings_154 : decode cL_settings 154 = .ok (.invokestatic 34, 3) := by decide +kernel
theorem dL_settings_157 : decode cL_settings 157 = .ok (.invokevirtual 38, 3) := by decide +kernel
theorem dL_settings_160 : decode cL_settings 160 = .ok (.pop, 1) := by decide +kernel
theorem dL_settings_161 : decode cL_settings 161 = .ok (.aload_n 0, 1) := by decide +kernel
theorem dL_settings_162 : decode cL_settings 162 = .ok (.iload_n 2, 1) := by decide +kernel
theorem dL_settings_163 : decode cL_settings 163 = .ok (.bipush 9, 2) := by decide +kernel
theorem dL_settings_165 : decode cL_settings 165 = .ok (.aload_n 1, 1) := by decide +kernel
theorem dL_settings_166 : decode cL_settings 166 = .ok (.iload_n 3, 1) := by decide +kernel
theorem dL_settings_167 : decode cL_settings 167 = .ok (.bipush 9, 2) := by decide +kernel
theorem dL_settings_169 : decode cL_settings 169 = .ok (.iadd, 1) := by decide +kernel
theorem dL_settings_170 : decode cL_settings 170 = .ok (.bipush 10, 2) := by decide +kernel
theorem dL_settings_172 : decode cL_settings 172 = .ok (.invokestatic 34, 3) := by decide +kernel
theorem dL_settings_175 : decode cL_settings 175 = .ok (.invokevirtual 38, 3) := by decide +kernel
theorem dL_settings_178 : decode cL_settings 178 = .ok (.pop, 1) := by decide +kernel
theorem dL_settings_179 : decode cL_settings 179 = .ok (.aload_n 0, 1) := by decide +kernel
theorem dL_settings_180 : decode cL_settings 180 = .ok (.iload_n 2, 1) := by decide +kernel
theorem dL_settings_181 : decode cL_settings 181 = .ok (.bipush 10, 2) := by decide +kernel
theorem dL_settings_183 : decode cL_settings 183 = .ok (.aload_n 1, 1) := by decide +kernel
theorem dL_settings_184 : decode cL_settings 184 = .ok (.iload_n 3, 1) := by decide +kernel
theorem dL_settings_185 : decode cL_settings 185 = .ok (.bipush 10, 2) := by decide +kernel
theorem dL_settings_187 : decode cL_settings 187 = .ok (.iadd, 1) := by decide +kernel
theorem dL_settings_188 : decode cL_settings 188 = .ok (.sipush 201, 3) := by decide +kernel
theorem dL_settings_191 : decode cL_settings 191 = .ok (.invokestatic 34, 3) := by decide +kernel
theorem dL_settings_194 : decode cL_settings 194 = .ok (.bipush 100, 2) := by decide +kernel
theorem dL_settings_196 : decode cL_settings 196 = .ok (.isub, 1) := by decide +kernel
theorem dL_settings_197 : decode cL_settings 197 = .ok (.invokevirtual 38, 3) := by decide +kernel
theorem dL_settings_200 : decode cL_settings 200 = .ok (.pop, 1) := by decide +kernel
theorem dL_settings_201 : decode cL_settings 201 = .ok (.aload_n 0, 1) := by decide +kernel
theorem dL_settings_202 : decode cL_settings 202 = .ok (.iload_n 2, 1) := by decide +kernel
theorem dL_settings_203 : decode cL_settings 203 = .ok (.iconst 0, 1) := by decide +kernel
theorem dL_settings_204 : decode cL_settings 204 = .ok (.aload_n 1, 1) := by decide +kernel
theorem dL_settings_205 : decode cL_settings 205 = .ok (.iload_n 3, 1) := by decide +kernel
theorem dL_settings_206 : decode cL_settings 206 = .ok (.bipush 11, 2) := by decide +kernel
theorem dL_settings_208 : decode cL_settings 208 = .ok (.iadd, 1) := by decide +kernel
theorem dL_settings_209 : decode cL_settings 209 = .ok (.sipush 600, 3) := by decide +kernel
theorem dL_settings_212 : decode cL_settings 212 = .ok (.invokestatic 34, 3) := by decide +kernel
theorem dL_settings_215 : decode cL_settings 215 = .ok (.sipush 300, 3) := by decide +kernel
theorem dL_settings_218 : decode cL_settings 218 = .ok (.isub, 1) := by decide +kernel
theorem dL_settings_219 : decode cL_settings 219 = .ok (.invokevirtual 42, 3) := by decide +kernel
theorem dL_settings_222 : decode cL_settings 222 = .ok (.pop, 1) := by decide +kernel
theorem dL_settings_223 : decode cL_settings 223 = .ok (.aload_n 0, 1) := by decide +kernel
theorem dL_settings_224 : decode cL_settings 224 = .ok (.iload_n 2, 1) := by decide +kernel
theorem dL_settings_225 : decode cL_settings 225 = .ok (.iconst 2, 1) := by decide +kernel
theorem dL_settings_226 : decode cL_settings 226 = .ok (.aload_n 1, 1) := by decide +kernel
theorem dL_settings_227 : decode cL_settings 227 = .ok (.iload_n 3, 1) := by decide +kernel
theorem dL_settings_228 : decode cL_settings 228 = .ok (.bipush 12, 2) := by decide +kernel
theorem dL_settings_230 : decode cL_settings 230 = .ok (.iadd, 1) := by decide +kernel
theorem dL_settings_231 : decode cL_settings 231 = .ok (.sipush 200, 3) := by decide +kernel
theorem dL_settings_234 : decode cL_settings 234 = .ok (.invokestatic 34, 3) := by decide +kernel
theorem dL_settings_237 : decode cL_settings 237 = .ok (.bipush 100, 2) := by decide +kernel
theorem dL_settings_239 : decode cL_settings 239 = .ok (.isub, 1) := by decide +kernel
theorem dL_settings_240 : decode cL_settings 240 = .ok (.invokevirtual 42, 3) := by decide +kernel
theorem dL_settings_243 : decode cL_settings 243 = .ok (.pop, 1) := by decide +kernel
theorem dL_settings_244 : decode cL_settings 244 = .ok (.return_, 1) := by decide +kernel
theorem dL_law_0 : decode cL_law 0 = .ok (.new 9, 3) := by decide +kernel
theorem dL_law_3 : decode cL_law 3 = .ok (.dup, 1) := by decide +kernel
theorem dL_law_4 : decode cL_law 4 = .ok (.invokespecial 45, 3) := by decide +kernel
theorem dL_law_7 : decode cL_law 7 = .ok (.astore_n 1, 1) := by decide +kernel
theorem dL_law_8 : decode cL_law 8 = .ok (.aload_n 1, 1) := by decide +kernel
theorem dL_law_9 : decode cL_law 9 = .ok (.iconst 2, 1) := by decide +kernel
theorem dL_law_10 : decode cL_law 10 = .ok (.invokevirtual 46, 3) := by decide +kernel
theorem dL_law_13 : decode cL_law 13 = .ok (.pop, 1) := by decide +kernel
theorem dL_law_14 : decode cL_law 14 = .ok (.aload_n 1, 1) := by decide +kernel
theorem dL_law_15 : decode cL_law 15 = .ok (.aload_n 0, 1) := by decide +kernel
theorem dL_law_16 : decode cL_law 16 = .ok (.iconst 0, 1) := by decide +kernel
theorem dL_law_17 : decode cL_law 17 = .ok (.iconst 0, 1) := by decide +kernel
theorem dL_law_18 : decode cL_law 18 = .ok (.invokestatic 49, 3) := by decide +kernel
theorem dL_law_21 : decode cL_law 21 = .ok (.aload_n 1, 1) := by decide +kernel
theorem dL_law_22 : decode cL_law 22 = .ok (.aload_n 0, 1) := by decide +kernel
theorem dL_law_23 : decode cL_law 23 = .ok (.iconst 1, 1) := by decide +kernel
theorem dL_law_24 : decode cL_law 24 = .ok (.bipush 13, 2) := by decide +kernel
theorem dL_law_26 : decode cL_law 26 = .ok (.invokestatic 49, 3) := by decide +kernel
theorem dL_law_29 : decode cL_law 29 = .ok (.bipush 14, 2) := by decide +kernel
theorem dL_law_31 : decode cL_law 31 = .ok (.newarray .int, 2) := by decide +kernel
theorem dL_law_33 : decode cL_law 33 = .ok (.astore_n 2, 1) := by decide +kernel
theorem dL_law_34 : decode cL_law 34 = .ok (.bipush 14, 2) := by decide +kernel
theorem dL_law_36 : decode cL_law 36 = .ok (.newarray .int, 2) := by decide +kernel
theorem dL_law_38 : decode cL_law 38 = .ok (.astore_n 3, 1) := by decide +kernel
theorem dL_law_39 : decode cL_law 39 = .ok (.iconst 5, 1) := by decide +kernel
theorem dL_law_40 : decode cL_law 40 = .ok (.newarray .int, 2) := by decide +kernel
theorem dL_law_42 : decode cL_law 42 = .ok (.astore 4, 2) := by decide +kernel
theorem dL_law_44 : decode cL_law 44 = .ok (.iconst 5, 1) := by decide +kernel
theorem dL_law_45 : decode cL_law 45 = .ok (.newarray .int, 2) := by decide +kernel
theorem dL_law_47 : decode cL_law 47 = .ok (.astore 5, 2) := by decide +kernel
theorem dL_law_49 : decode cL_law 49 = .ok (.bipush 48, 2) := by decide +kernel
theorem dL_law_51 : decode cL_law 51 = .ok (.newarray .int, 2) := by decide +kernel
theorem dL_law_53 : decode cL_law 53 = .ok (.astore 6, 2) := by decide +kernel
theorem dL_law_55 : decode cL_law 55 = .ok (.bipush 48, 2) := by decide +kernel
theorem dL_law_57 : decode cL_law 57 = .ok (.newarray .int, 2) := by decide +kernel
theorem dL_law_59 : decode cL_law 59 = .ok (.astore 7, 2) := by decide +kernel
theorem dL_law_61 : decode cL_law 61 = .ok (.bipush 48, 2) := by decide +kernel
theorem dL_law_63 : decode cL_law 63 = .ok (.newarray .int, 2) := by decide +kernel
theorem dL_law_65 : decode cL_law 65 = .ok (.astore 8, 2) := by decide +kernel
theorem dL_law_67 : decode cL_law 67 = .ok (.bipush 48, 2) := by decide +kernel
theorem dL_law_69 : decode cL_law 69 = .ok (.newarray .int, 2) := by decide +kernel
theorem dL_law_71 : decode cL_law 71 = .ok (.astore 9, 2) := by decide +kernel
theorem dL_law_73 : decode cL_law 73 = .ok (.bipush 48, 2) := by decide +kernel
theorem dL_law_75 : decode cL_law 75 = .ok (.newarray .int, 2) := by decide +kernel
theorem dL_law_77 : decode cL_law 77 = .ok (.astore 10, 2) := by decide +kernel
theorem dL_law_79 : decode cL_law 79 = .ok (.aload_n 1, 1) := by decide +kernel
theorem dL_law_80 : decode cL_law 80 = .ok (.iconst 1, 1) := by decide +kernel
theorem dL_law_81 : decode cL_law 81 = .ok (.bipush 13, 2) := by decide +kernel
theorem dL_law_83 : decode cL_law 83 = .ok (.invokevirtual 8, 3) := by decide +kernel
theorem dL_law_86 : decode cL_law 86 = .ok (.istore 11, 2) := by decide +kernel
theorem dL_law_88 : decode cL_law 88 = .ok (.aload_n 1, 1) := by decide +kernel
theorem dL_law_89 : decode cL_law 89 = .ok (.iconst 1, 1) := by decide +kernel
theorem dL_law_90 : decode cL_law 90 = .ok (.iconst 1, 1) := by decide +kernel
theorem dL_law_91 : decode cL_law 91 = .ok (.invokevirtual 20, 3) := by decide +kernel
theorem dL_law_94 : decode cL_law 94 = .ok (.istore 12, 2) := by decide +kernel
theorem dL_law_96 : decode cL_law 96 = .ok (.iconst (-1), 1) := by decide +kernel
theorem dL_law_97 : decode cL_law 97 = .ok (.istore 13, 2) := by decide +kernel
theorem dL_law_99 : decode cL_law 99 = .ok (.iconst 0, 1) := by decide +kernel
theorem dL_law_100 : decode cL_law 100 = .ok (.istore 14, 2) := by decide +kernel
theorem dL_law_102 : decode cL_law 102 = .ok (.iconst 1, 1) := by decide +kernel
theorem dL_law_103 : decode cL_law 103 = .ok (.istore 15, 2) := by decide +kernel
theorem dL_law_105 : decode cL_law 105 = .ok (.iconst 0, 1) := by decide +kernel
theorem dL_law_106 : decode cL_law 106 = .ok (.istore 16, 2) := by decide +kernel
theorem dL_law_108 : decode cL_law 108 = .ok (.iconst 0, 1) := by decide +kernel
theorem dL_law_109 : decode cL_law 109 = .ok (.istore 17, 2) := by decide +kernel
theorem dL_law_111 : decode cL_law 111 = .ok (.iload 17, 2) := by decide +kernel
theorem dL_law_113 : decode cL_law 113 = .ok (.bipush 40, 2) := by decide +kernel
theorem dL_law_115 : decode cL_law 115 = .ok (.if_icmp .ge 461, 3) := by decide +kernel
theorem dL_law_118 : decode cL_law 118 = .ok (.aload_n 0, 1) := by decide +kernel
theorem dL_law_119 : decode cL_law 119 = .ok (.iconst 3, 1) := by decide +kernel
theorem dL_law_120 : decode cL_law 120 = .ok (.iload 17, 2) := by decide +kernel
theorem dL_law_122 : decode cL_law 122 = .ok (.imul, 1) := by decide +kernel
theorem dL_law_123 : decode cL_law 123 = .ok (.bipush 26, 2) := by decide +kernel
theorem dL_law_125 : decode cL_law 125 = .ok (.iadd, 1) := by decide +kernel
theorem dL_law_126 : decode cL_law 126 = .ok (.bipush 12, 2) := by decide +kernel
theorem dL_law_128 : decode cL_law 128 = .ok (.invokestatic 34, 3) := by decide +kernel
theorem dL_law_131 : decode cL_law 131 = .ok (.istore 18, 2) := by decide +kernel
theorem dL_law_133 : decode cL_law 133 = .ok (.aload_n 0, 1) := by decide +kernel
theorem dL_law_134 : decode cL_law 134 = .ok (.iconst 3, 1) := by decide +kernel
theorem dL_law_135 : decode cL_law 135 = .ok (.iload 17, 2) := by decide +kernel
theorem dL_law_137 : decode cL_law 137 = .ok (.imul, 1) := by decide +kernel
theorem dL_law_138 : decode cL_law 138 = .ok (.bipush 27, 2) := by decide +kernel
theorem dL_law_140 : decode cL_law 140 = .ok (.iadd, 1) := by decide +kernel
theorem dL_law_141 : decode cL_law 141 = .ok (.sipush 401, 3) := by decide +kernel
theorem dL_law_144 : decode cL_law 144 = .ok (.invokestatic 34, 3) := by decide +kernel
theorem dL_law_147 : decode cL_law 147 = .ok (.sipush 200, 3) := by decide +kernel
theorem dL_law_150 : decode cL_law 150 = .ok (.isub, 1) := by decide +kernel
theorem dL_law_151 : decode cL_law 151 = .ok (.istore 19, 2) := by decide +kernel
theorem dL_law_153 : decode cL_law 153 = .ok (.iconst 1, 1) := by decide +kernel
theorem dL_law_154 : decode cL_law 154 = .ok (.aload_n 0, 1) := by decide +kernel
theorem dL_law_155 : decode cL_law 155 = .ok (.iconst 3, 1) := by decide +kernel
theorem dL_law_156 : decode cL_law 156 = .ok (.iload 17, 2) := by decide +kernel
theorem dL_law_158 : decode cL_law 158 = .ok (.imul, 1) := by decide +kernel
theorem dL_law_159 : decode cL_law 159 = .ok (.bipush 28, 2) := by decide +kernel
theorem dL_law_161 : decode cL_law 161 = .ok (.iadd, 1) := by decide +kernel
theorem dL_law_162 : decode cL_law 162 = .ok (.bipush 8, 2) := by decide +kernel
theorem dL_law_164 : decode cL_law 164 = .ok (.invokestatic 34, 3) := by decide +kernel
theorem dL_law_167 : decode cL_law 167 = .ok (.iadd, 1) := by decide +kernel
theorem dL_law_168 : decode cL_law 168 = .ok (.istore 20, 2) := by decide +kernel
theorem dL_law_170 : decode cL_law 170 = .ok (.iload 18, 2) := by decide +kernel
theorem dL_law_172 : decode cL_law 172 = .ok (.ifCond .ne 16, 3) := by decide +kernel
theorem dL_law_175 : decode cL_law 175 = .ok (.aload_n 1, 1) := by decide +kernel
theorem dL_law_176 : decode cL_law 176 = .ok (.iload 19, 2) := by decide +kernel
theorem dL_law_178 : decode cL_law 178 = .ok (.invokestatic 26, 3) := by decide +kernel
theorem dL_law_181 : decode cL_law 181 = .ok (.invokevirtual 53, 3) := by decide +kernel
theorem dL_law_184 : decode cL_law 184 = .ok (.pop, 1) := by decide +kernel
theorem dL_law_185 : decode cL_law 185 = .ok (.goto 134, 3) := by decide +kernel
theorem dL_law_188 : decode cL_law 188 = .ok (.iload 18, 2) := by decide +kernel
theorem dL_law_190 : decode cL_law 190 = .ok (.iconst 1, 1) := by decide +kernel
theorem dL_law_191 : decode cL_law 191 = .ok (.if_icmp .eq 9, 3) := by decide +kernel
theorem dL_law_194 : decode cL_law 194 = .ok (.iload 18, 2) := by decide +kernel
theorem dL_law_196 : decode cL_law 196 = .ok (.iconst 2, 1) := by decide +kernel
theorem dL_law_197 : decode cL_law 197 = .ok (.if_icmp .ne 46, 3) := by decide +kernel
theorem dL_law_200 : decode cL_law 200 = .ok (.aload_n 1, 1) := by decide +kernel
theorem dL_law_201 : decode cL_law 201 = .ok (.iload 18, 2) := by decide +kernel
theorem dL_law_203 : decode cL_law 203 = .ok (.iconst 1, 1) := by decide +kernel
theorem dL_law_204 : decode cL_law 204 = .ok (.isub, 1) := by decide +kernel
theorem dL_law_205 : decode cL_law 205 = .ok (.iload 19, 2) := by decide +kernel
theorem dL_law_207 : decode cL_law 207 = .ok (.iload 20, 2) := by decide +kernel
theorem dL_law_209 : decode cL_law 209 = .ok (.invokevirtual 56, 3) := by decide +kernel
theorem dL_law_212 : decode cL_law 212 = .ok (.pop, 1) := by decide +kernel
theorem dL_law_213 : decode cL_law 213 = .ok (.iload 18, 2) := by decide +kernel
theorem dL_law_215 : decode cL_law 215 = .ok (.iconst 1, 1) := by decide +kernel
theorem dL_law_216 : decode cL_law 216 = .ok (.if_icmp .ne 8, 3) := by decide +kernel
theorem dL_law_219 : decode cL_law 219 = .ok (.aload 4, 2) := by decide +kernel
theorem dL_law_221 : decode cL_law 221 = .ok (.goto 5, 3) := by decide +kernel
theorem dL_law_224 : decode cL_law 224 = .ok (.aload 5, 2) := by decide +kernel
theorem dL_law_226 : decode cL_law 226 = .ok (.astore 21, 2) := by decide +kernel
theorem dL_law_228 : decode cL_law 228 = .ok (.aload 21, 2) := by decide +kernel
theorem dL_law_230 : decode cL_law 230 = .ok (.iconst 0, 1) := by decide +kernel
theorem dL_law_231 : decode cL_law 231 = .ok (.iload 19, 2) := by decide +kernel
theorem dL_law_233 : decode cL_law 233 = .ok (.iastore, 1) := by decide +kernel
theorem dL_law_234 : decode cL_law 234 = .ok (.aload 21, 2) := by decide +kernel
theorem dL_law_236 : decode cL_law 236 = .ok (.iconst 1, 1) := by decide +kernel
theorem dL_law_237 : decode cL_law 237 = .ok (.iload 20, 2) := by decide +kernel
theorem dL_law_239 : decode cL_law 239 = .ok (.iastore, 1) := by decide +kernel
theorem dL_law_240 : decode cL_law 240 = .ok (.goto 79, 3) := by decide +kernel
theorem dL_law_243 : decode cL_law 243 = .ok (.iload 18, 2) := by decide +kernel
theorem dL_law_245 : decode cL_law 245 = .ok (.iconst 3, 1) := by decide +kernel
theorem dL_law_246 : decode cL_law 246 = .ok (.if_icmp .ne 14, 3) := by decide +kernel
theorem dL_law_249 : decode cL_law 249 = .ok (.aload_n 1, 1) := by decide +kernel
theorem dL_law_250 : decode cL_law 250 = .ok (.iconst 1, 1) := by decide +kernel
theorem dL_law_251 : decode cL_law 251 = .ok (.iload 20, 2) := by decide +kernel
theorem dL_law_253 : decode cL_law 253 = .ok (.invokevirtual 59, 3) := by decide +kernel
theorem dL_law_256 : decode cL_law 256 = .ok (.pop, 1) := by decide +kernel
theorem dL_law_257 : decode cL_law 257 = .ok (.goto 62, 3) := by decide +kernel
theorem dL_law_260 : decode cL_law 260 = .ok (.iload 18, 2) := by decide +kernel
theorem dL_law_262 : decode cL_law 262 = .ok (.iconst 4, 1) := by decide +kernel
theorem dL_law_263 : decode cL_law 263 = .ok (.if_icmp .ne 22, 3) := by decide +kernel
theorem dL_law_266 : decode cL_law 266 = .ok (.aload_n 1, 1) := by decide +kernel
theorem dL_law_267 : decode cL_law 267 = .ok (.iconst 1, 1) := by decide +kernel
theorem dL_law_268 : decode cL_law 268 = .ok (.iload 19, 2) := by decide +kernel
theorem dL_law_270 : decode cL_law 270 = .ok (.iload 20, 2) := by decide +kernel
theorem dL_law_272 : decode cL_law 272 = .ok (.invokevirtual 62, 3) := by decide +kernel
theorem dL_law_275 : decode cL_law 275 = .ok (.pop, 1) := by decide +kernel
theorem dL_law_276 : decode cL_law 276 = .ok (.aload 5, 2) := by decide +kernel
theorem dL_law_278 : decode cL_law 278 = .ok (.iconst 4, 1) := by decide +kernel
theorem dL_law_279 : decode cL_law 279 = .ok (.iload 19, 2) := by decide +kernel
theorem dL_law_281 : decode cL_law 281 = .ok (.iastore, 1) := by decide +kernel
theorem dL_law_282 : decode cL_law 282 = .ok (.goto 37, 3) := by decide +kernel
theorem dL_law_285 : decode cL_law 285 = .ok (.iload 18, 2) := by decide +kernel
theorem dL_law_287 : decode cL_law 287 = .ok (.iconst 5, 1) := by decide +kernel
theorem dL_law_288 : decode cL_law 288 = .ok (.if_icmp .ne 31, 3) := by decide +kernel
theorem dL_law_291 : decode cL_law 291 = .ok (.aload_n 1, 1) := by decide +kernel
theorem dL_law_292 : decode cL_law 292 = .ok (.iload 19, 2) := by decide +kernel
theorem dL_law_294 : decode cL_law 294 = .ok (.iload 20, 2) := by decide +kernel
theorem dL_law_296 : decode cL_law 296 = .ok (.invokevirtual 65, 3) := by decide +kernel
theorem dL_law_299 : decode cL_law 299 = .ok (.iload 11, 2) := by decide +kernel
theorem dL_law_301 : decode cL_law 301 = .ok (.iconst 1, 1) := by decide +kernel
theorem dL_law_302 : decode cL_law 302 = .ok (.iadd, 1) := by decide +kernel
theorem dL_law_303 : decode cL_law 303 = .ok (.if_icmp .eq 5, 3) := by decide +kernel
theorem dL_law_306 : decode cL_law 306 = .ok (.iconst 0, 1) := by decide +kernel
theorem dL_law_307 : decode cL_law 307 = .ok (.ireturn, 1) := by decide +kernel
theorem dL_law_308 : decode cL_law 308 = .ok (.iconst 0, 1) := by decide +kernel
theorem dL_law_309 : decode cL_law 309 = .ok (.istore 13, 2) := by decide +kernel
theorem dL_law_311 : decode cL_law 311 = .ok (.iload 19, 2) := by decide +kernel
theorem dL_law_313 : decode cL_law 313 = .ok (.istore 14, 2) := by decide +kernel
theorem dL_law_315 : decode cL_law 315 = .ok (.iload 20, 2) := by decide +kernel
theorem dL_law_317 : decode cL_law 317 = .ok (.istore 15, 2) := by decide +kernel
theorem dL_law_319 : decode cL_law 319 = .ok (.aload_n 1, 1) := by decide +kernel
theorem dL_law_320 : decode cL_law 320 = .ok (.iconst 0, 1) := by decide +kernel
theorem dL_law_321 : decode cL_law 321 = .ok (.aload_n 2, 1) := by decide +kernel
theorem dL_law_322 : decode cL_law 322 = .ok (.invokestatic 68, 3) := by decide +kernel
theorem dL_law_325 : decode cL_law 325 = .ok (.aload_n 1, 1) := by decide +kernel
theorem dL_law_326 : decode cL_law 326 = .ok (.iconst 1, 1) := by decide +kernel
theorem dL_law_327 : decode cL_law 327 = .ok (.aload_n 3, 1) := by decide +kernel
theorem dL_law_328 : decode cL_law 328 = .ok (.invokestatic 68, 3) := by decide +kernel
theorem dL_law_331 : decode cL_law 331 = .ok (.aload 10, 2) := by decide +kernel
theorem dL_law_333 : decode cL_law 333 = .ok (.iload 17, 2) := by decide +kernel
theorem dL_law_335 : decode cL_law 335 = .ok (.aload_n 1, 1) := by decide +kernel
theorem dL_law_336 : decode cL_law 336 = .ok (.iconst 2, 1) := by decide +kernel
theorem dL_law_337 : decode cL_law 337 = .ok (.invokevirtual 72, 3) := by decide +kernel
theorem dL_law_340 : decode cL_law 340 = .ok (.iload 16, 2) := by decide +kernel
theorem dL_law_342 : decode cL_law 342 = .ok (.isub, 1) := by decide +kernel
theorem dL_law_343 : decode cL_law 343 = .ok (.iastore, 1) := by decide +kernel
theorem dL_law_344 : decode cL_law 344 = .ok (.aload_n 1, 1) := by decide +kernel
theorem dL_law_345 : decode cL_law 345 = .ok (.iconst 2, 1) := by decide +kernel
theorem dL_law_346 : decode cL_law 346 = .ok (.invokevirtual 72, 3) := by decide +kernel
theorem dL_law_349 : decode cL_law 349 = .ok (.istore 16, 2) := by decide +kernel
theorem dL_law_351 : decode cL_law 351 = .ok (.iload 13, 2) := by decide +kernel
theorem dL_law_353 : decode cL_law 353 = .ok (.ifCond .ne 15, 3) := by decide +kernel
theorem dL_law_356 : decode cL_law 356 = .ok (.aload_n 1, 1) := by decide +kernel
theorem dL_law_357 : decode cL_law 357 = .ok (.iconst 0, 1) := by decide +kernel
theorem dL_law_358 : decode cL_law 358 = .ok (.aload_n 2, 1) := by decide +kernel
theorem dL_law_359 : decode cL_law 359 = .ok (.aload 4, 2) := by decide +kernel
theorem dL_law_361 : decode cL_law 361 = .ok (.iload 14, 2) := by decide +kernel
theorem dL_law_363 : decode cL_law 363 = .ok (.iload 15, 2) := by decide +kernel
theorem dL_law_365 : decode cL_law 365 = .ok (.invokestatic 75, 3) := by decide +kernel
theorem dL_law_368 : decode cL_law 368 = .ok (.iload 13, 2) := by decide +kernel
theorem dL_law_370 : decode cL_law 370 = .ok (.iload 11, 2) := by decide +kernel
theorem dL_law_372 : decode cL_law 372 = .ok (.if_icmp .ne 15, 3) := by decide +kernel
theorem dL_law_375 : decode cL_law 375 = .ok (.aload_n 1, 1) := by decide +kernel
theorem dL_law_376 : decode cL_law 376 = .ok (.iconst 1, 1) := by decide +kernel
theorem dL_law_377 : decode cL_law 377 = .ok (.aload_n 3, 1) := by decide +kernel
theorem dL_law_378 : decode cL_law 378 = .ok (.aload 5, 2) := by decide +kernel
theorem dL_law_380 : decode cL_law 380 = .ok (.iload 14, 2) := by decide +kernel
theorem dL_law_382 : decode cL_law 382 = .ok (.iload 15, 2) := by decide +kernel
theorem dL_law_384 : decode cL_law 384 = .ok (.invokestatic 75, 3) := by decide +kernel
theorem dL_law_387 : decode cL_law 387 = .ok (.iload 13, 2) := by decide +kernel
theorem dL_law_389 : decode cL_law 389 = .ok (.iload 13, 2) := by decide +kernel
theorem dL_law_391 : decode cL_law 391 = .ok (.ifCond .lt 7, 3) := by decide +kernel
theorem dL_law_394 : decode cL_law 394 = .ok (.iconst 1, 1) := by decide +kernel
theorem dL_law_395 : decode cL_law 395 = .ok (.goto 4, 3) := by decide +kernel
theorem dL_law_398 : decode cL_law 398 = .ok (.iconst 0, 1) := by decide +kernel
theorem dL_law_399 : decode cL_law 399 = .ok (.iadd, 1) := by decide +kernel
theorem dL_law_400 : decode cL_law 400 = .ok (.istore 13, 2) := by decide +kernel
theorem dL_law_402 : decode cL_law 402 = .ok (.aload_n 1, 1) := by decide +kernel
theorem dL_law_403 : decode cL_law 403 = .ok (.iconst 1, 1) := by decide +kernel
theorem dL_law_404 : decode cL_law 404 = .ok (.invokevirtual 79, 3) := by decide +kernel
theorem dL_law_407 : decode cL_law 407 = .ok (.iload 17, 2) := by decide +kernel
theorem dL_law_409 : decode cL_law 409 = .ok (.iconst 1, 1) := by decide +kernel
theorem dL_law_410 : decode cL_law 410 = .ok (.iadd, 1) := by decide +kernel
theorem dL_law_411 : decode cL_law 411 = .ok (.if_icmp .ne 47, 3) := by decide +kernel
theorem dL_law_414 : decode cL_law 414 = .ok (.aload_n 1, 1) := by decide +kernel
theorem dL_law_415 : decode cL_law 415 = .ok (.iconst 0, 1) := by decide +kernel
theorem dL_law_416 : decode cL_law 416 = .ok (.aload_n 2, 1) := by decide +kernel
theorem dL_law_417 : decode cL_law 417 = .ok (.aload 4, 2) := by decide +kernel
theorem dL_law_419 : decode cL_law 419 = .ok (.aload 6, 2) := by decide +kernel
theorem dL_law_421 : decode cL_law 421 = .ok (.aload 8, 2) := by decide +kernel
theorem dL_law_423 : decode cL_law 423 = .ok (.iload 17, 2) := by decide +kernel
theorem dL_law_425 : decode cL_law 425 = .ok (.aload 10, 2) := by decide +kernel
theorem dL_law_427 : decode cL_law 427 = .ok (.iload 17, 2) := by decide +kernel
theorem dL_law_429 : decode cL_law 429 = .ok (.iaload, 1) := by decide +kernel
theorem dL_law_430 : decode cL_law 430 = .ok (.invokestatic 82, 3) := by decide +kernel
theorem dL_law_433 : decode cL_law 433 = .ok (.ifCond .eq 25, 3) := by decide +kernel
theorem dL_law_436 : decode cL_law 436 = .ok (.aload_n 1, 1) := by decide +kernel
theorem dL_law_437 : decode cL_law 437 = .ok (.iconst 1, 1) := by decide +kernel
theorem dL_law_438 : decode cL_law 438 = .ok (.aload_n 3, 1) := by decide +kernel
theorem dL_law_439 : decode cL_law 439 = .ok (.aload 5, 2) := by decide +kernel
theorem dL_law_441 : decode cL_law 441 = .ok (.aload 7, 2) := by decide +kernel
theorem dL_law_443 : decode cL_law 443 = .ok (.aload 9, 2) := by decide +kernel
theorem dL_law_445 : decode cL_law 445 = .ok (.iload 17, 2) := by decide +kernel
theorem dL_law_447 : decode cL_law 447 = .ok (.aload 10, 2) := by decide +kernel
theorem dL_law_449 : decode cL_law 449 = .ok (.iload 17, 2) := by decide +kernel
theorem dL_law_451 : decode cL_law 451 = .ok (.iaload, 1) := by decide +kernel
theorem dL_law_452 : decode cL_law 452 = .ok (.invokestatic 82, 3) := by decide +kernel
theorem dL_law_455 : decode cL_law 455 = .ok (.ifCond .ne 5, 3) := by decide +kernel
theorem dL_law_458 : decode cL_law 458 = .ok (.iconst 0, 1) := by decide +kernel
theorem dL_law_459 : decode cL_law 459 = .ok (.ireturn, 1) := by decide +kernel
theorem dL_law_460 : decode cL_law 460 = .ok (.iload 17, 2) := by decide +kernel
theorem dL_law_462 : decode cL_law 462 = .ok (.iload 12, 2) := by decide +kernel
theorem dL_law_464 : decode cL_law 464 = .ok (.isub, 1) := by decide +kernel
theorem dL_law_465 : decode cL_law 465 = .ok (.istore 21, 2) := by decide +kernel
theorem dL_law_467 : decode cL_law 467 = .ok (.iload 21, 2) := by decide +kernel
theorem dL_law_469 : decode cL_law 469 = .ok (.iload 11, 2) := by decide +kernel
theorem dL_law_471 : decode cL_law 471 = .ok (.if_icmp .lt 40, 3) := by decide +kernel
theorem dL_law_474 : decode cL_law 474 = .ok (.aload_n 1, 1) := by decide +kernel
theorem dL_law_475 : decode cL_law 475 = .ok (.iconst 1, 1) := by decide +kernel
theorem dL_law_476 : decode cL_law 476 = .ok (.aload_n 3, 1) := by decide +kernel
theorem dL_law_477 : decode cL_law 477 = .ok (.aload 5, 2) := by decide +kernel
theorem dL_law_479 : decode cL_law 479 = .ok (.aload 7, 2) := by decide +kernel
theorem dL_law_481 : decode cL_law 481 = .ok (.iload 21, 2) := by decide +kernel
theorem dL_law_483 : decode cL_law 483 = .ok (.iaload, 1) := by decide +kernel
theorem dL_law_484 : decode cL_law 484 = .ok (.aload 6, 2) := by decide +kernel
theorem dL_law_486 : decode cL_law 486 = .ok (.iload 21, 2) := by decide +kernel
theorem dL_law_488 : decode cL_law 488 = .ok (.iload 11, 2) := by decide +kernel
theorem dL_law_490 : decode cL_law 490 = .ok (.isub, 1) := by decide +kernel
theorem dL_law_491 : decode cL_law 491 = .ok (.iaload, 1) := by decide +kernel
theorem dL_law_492 : decode cL_law 492 = .ok (.isub, 1) := by decide +kernel
theorem dL_law_493 : decode cL_law 493 = .ok (.aload 9, 2) := by decide +kernel
theorem dL_law_495 : decode cL_law 495 = .ok (.iload 21, 2) := by decide +kernel
theorem dL_law_497 : decode cL_law 497 = .ok (.iaload, 1) := by decide +kernel
theorem dL_law_498 : decode cL_law 498 = .ok (.aload 10, 2) := by decide +kernel
theorem dL_law_500 : decode cL_law 500 = .ok (.iload 21, 2) := by decide +kernel
theorem dL_law_502 : decode cL_law 502 = .ok (.iaload, 1) := by decide +kernel
theorem dL_law_503 : decode cL_law 503 = .ok (.invokestatic 86, 3) := by decide +kernel
theorem dL_law_506 : decode cL_law 506 = .ok (.ifCond .ne 29, 3) := by decide +kernel
theorem dL_law_509 : decode cL_law 509 = .ok (.iconst 0, 1) := by decide +kernel
theorem dL_law_510 : decode cL_law 510 = .ok (.ireturn, 1) := by decide +kernel
theorem dL_law_511 : decode cL_law 511 = .ok (.aload_n 1, 1) := by decide +kernel
theorem dL_law_512 : decode cL_law 512 = .ok (.iconst 1, 1) := by decide +kernel
theorem dL_law_513 : decode cL_law 513 = .ok (.iconst 2, 1) := by decide +kernel
theorem dL_law_514 : decode cL_law 514 = .ok (.invokevirtual 23, 3) := by decide +kernel
theorem dL_law_517 : decode cL_law 517 = .ok (.ldc 30, 2) := by decide +kernel
theorem dL_law_519 : decode cL_law 519 = .ok (.if_icmp .ne 14, 3) := by decide +kernel
theorem dL_law_522 : decode cL_law 522 = .ok (.aload_n 1, 1) := by decide +kernel
theorem dL_law_523 : decode cL_law 523 = .ok (.iconst 1, 1) := by decide +kernel
theorem dL_law_524 : decode cL_law 524 = .ok (.iconst 4, 1) := by decide +kernel
theorem dL_law_525 : decode cL_law 525 = .ok (.invokevirtual 23, 3) := by decide +kernel
theorem dL_law_528 : decode cL_law 528 = .ok (.ldc 30, 2) := by decide +kernel
theorem dL_law_530 : decode cL_law 530 = .ok (.if_icmp .eq 5, 3) := by decide +kernel
theorem dL_law_533 : decode cL_law 533 = .ok (.iconst 0, 1) := by decide +kernel
theorem dL_law_534 : decode cL_law 534 = .ok (.ireturn, 1) := by decide +kernel
theorem dL_law_535 : decode cL_law 535 = .ok (.aload_n 1, 1) := by decide +kernel
theorem dL_law_536 : decode cL_law 536 = .ok (.iconst 0, 1) := by decide +kernel
theorem dL_law_537 : decode cL_law 537 = .ok (.aload_n 2, 1) := by decide +kernel
theorem dL_law_538 : decode cL_law 538 = .ok (.aload 4, 2) := by decide +kernel
theorem dL_law_540 : decode cL_law 540 = .ok (.invokestatic 90, 3) := by decide +kernel
theorem dL_law_543 : decode cL_law 543 = .ok (.ifCond .eq 25, 3) := by decide +kernel
theorem dL_law_546 : decode cL_law 546 = .ok (.aload_n 1, 1) := by decide +kernel
theorem dL_law_547 : decode cL_law 547 = .ok (.iconst 1, 1) := by decide +kernel
theorem dL_law_548 : decode cL_law 548 = .ok (.aload_n 3, 1) := by decide +kernel
theorem dL_law_549 : decode cL_law 549 = .ok (.aload 5, 2) := by decide +kernel
theorem dL_law_551 : decode cL_law 551 = .ok (.invokestatic 90, 3) := by decide +kernel
theorem dL_law_554 : decode cL_law 554 = .ok (.ifCond .eq 14, 3) := by decide +kernel
theorem dL_law_557 : decode cL_law 557 = .ok (.aload_n 1, 1) := by decide +kernel
theorem dL_law_558 : decode cL_law 558 = .ok (.iconst 0, 1) := by decide +kernel
theorem dL_law_559 : decode cL_law 559 = .ok (.iconst 2, 1) := by decide +kernel
theorem dL_law_560 : decode cL_law 560 = .ok (.invokevirtual 23, 3) := by decide +kernel
theorem dL_law_563 : decode cL_law 563 = .ok (.ldc 30, 2) := by decide +kernel
theorem dL_law_565 : decode cL_law 565 = .ok (.if_icmp .eq 5, 3) := by decide +kernel
theorem dL_law_568 : decode cL_law 568 = .ok (.iconst 0, 1) := by decide +kernel
theorem dL_law_569 : decode cL_law 569 = .ok (.ireturn, 1) := by decide +kernel
theorem dL_law_570 : decode cL_law 570 = .ok (.iinc 17 1, 3) := by decide +kernel
theorem dL_law_573 : decode cL_law 573 = .ok (.goto (-462), 3) := by decide +kernel
theorem dL_law_576 : decode cL_law 576 = .ok (.bipush 40, 2) := by decide +kernel
theorem dL_law_578 : decode cL_law 578 = .ok (.iload 12, 2) := by decide +kernel
theorem dL_law_580 : decode cL_law 580 = .ok (.isub, 1) := by decide +kernel
theorem dL_law_581 : decode cL_law 581 = .ok (.iload 11, 2) := by decide +kernel
theorem dL_law_583 : decode cL_law 583 = .ok (.isub, 1) := by decide +kernel
theorem dL_law_584 : decode cL_law 584 = .ok (.istore 17, 2) := by decide +kernel
theorem dL_law_586 : decode cL_law 586 = .ok (.aload_n 1, 1) := by decide +kernel
theorem dL_law_587 : decode cL_law 587 = .ok (.iconst 1, 1) := by decide +kernel
theorem dL_law_588 : decode cL_law 588 = .ok (.bipush 60, 2) := by decide +kernel
theorem dL_law_590 : decode cL_law 590 = .ok (.iconst 2, 1) := by decide +kernel
theorem dL_law_591 : decode cL_law 591 = .ok (.invokevirtual 94, 3) := by decide +kernel
theorem dL_law_594 : decode cL_law 594 = .ok (.iload 17, 2) := by decide +kernel
theorem dL_law_596 : decode cL_law 596 = .ok (.if_icmp .ne 66, 3) := by decide +kernel
theorem dL_law_599 : decode cL_law 599 = .ok (.aload_n 1, 1) := by decide +kernel
theorem dL_law_600 : decode cL_law 600 = .ok (.iconst 0, 1) := by decide +kernel
theorem dL_law_601 : decode cL_law 601 = .ok (.invokevirtual 97, 3) := by decide +kernel
theorem dL_law_604 : decode cL_law 604 = .ok (.aload_n 1, 1) := by decide +kernel
theorem dL_law_605 : decode cL_law 605 = .ok (.iconst 2, 1) := by decide +kernel
theorem dL_law_606 : decode cL_law 606 = .ok (.invokevirtual 97, 3) := by decide +kernel
theorem dL_law_609 : decode cL_law 609 = .ok (.iadd, 1) := by decide +kernel
theorem dL_law_610 : decode cL_law 610 = .ok (.iload 17, 2) := by decide +kernel
theorem dL_law_612 : decode cL_law 612 = .ok (.if_icmp .ne 50, 3) := by decide +kernel
theorem dL_law_615 : decode cL_law 615 = .ok (.aload_n 1, 1) := by decide +kernel
theorem dL_law_616 : decode cL_law 616 = .ok (.iconst 0, 1) := by decide +kernel
theorem dL_law_617 : decode cL_law 617 = .ok (.iconst 1, 1) := by decide +kernel
theorem dL_law_618 : decode cL_law 618 = .ok (.iconst 0, 1) := by decide +kernel
theorem dL_law_619 : decode cL_law 619 = .ok (.invokevirtual 94, 3) := by decide +kernel
theorem dL_law_622 : decode cL_law 622 = .ok (.ldc 100, 2) := by decide +kernel
theorem dL_law_624 : decode cL_law 624 = .ok (.if_icmp .ne 38, 3) := by decide +kernel
theorem dL_law_627 : decode cL_law 627 = .ok (.aload_n 1, 1) := by decide +kernel
theorem dL_law_628 : decode cL_law 628 = .ok (.iconst 3, 1) := by decide +kernel
theorem dL_law_629 : decode cL_law 629 = .ok (.invokevirtual 72, 3) := by decide +kernel
theorem dL_law_632 : decode cL_law 632 = .ok (.iload 13, 2) := by decide +kernel
theorem dL_law_634 : decode cL_law 634 = .ok (.ifCond .lt 10, 3) := by decide +kernel
theorem dL_law_637 : decode cL_law 637 = .ok (.iload 13, 2) := by decide +kernel
theorem dL_law_639 : decode cL_law 639 = .ok (.iload 11, 2) := by decide +kernel
theorem dL_law_641 : decode cL_law 641 = .ok (.if_icmp .le 7, 3) := by decide +kernel
theorem dL_law_644 : decode cL_law 644 = .ok (.iconst 0, 1) := by decide +kernel
theorem dL_law_645 : decode cL_law 645 = .ok (.goto 10, 3) := by decide +kernel
theorem dL_law_648 : decode cL_law 648 = .ok (.iload 11, 2) := by decide +kernel
theorem dL_law_650 : decode cL_law 650 = .ok (.iconst 1, 1) := by decide +kernel
theorem dL_law_651 : decode cL_law 651 = .ok (.iadd, 1) := by decide +kernel
theorem dL_law_652 : decode cL_law 652 = .ok (.iload 13, 2) := by decide +kernel
theorem dL_law_654 : decode cL_law 654 = .ok (.isub, 1) := by decide +kernel
theorem dL_law_655 : decode cL_law 655 = .ok (.if_icmp .ne 7, 3) := by decide +kernel
theorem dL_law_658 : decode cL_law 658 = .ok (.iconst 1, 1) := by decide +kernel
theorem dL_law_659 : decode cL_law 659 = .ok (.goto 4, 3) := by decide +kernel
theorem dL_law_662 : decode cL_law 662 = .ok (.iconst 0, 1) := by decide +kernel
theorem dL_law_663 : decode cL_law 663 = .ok (.ireturn, 1) := by decide +kernel
theorem dL_comes_0 : decode cL_comes 0 = .ok (.aload_n 3, 1) := by decide +kernel
theorem dL_comes_1 : decode cL_comes 1 = .ok (.iconst 0, 1) := by decide +kernel
theorem dL_comes_2 : decode cL_comes 2 = .ok (.iload 4, 2) := by decide +kernel
theorem dL_comes_4 : decode cL_comes 4 = .ok (.iastore, 1) := by decide +kernel
theorem dL_comes_5 : decode cL_comes 5 = .ok (.aload_n 3, 1) := by decide +kernel
theorem dL_comes_6 : decode cL_comes 6 = .ok (.iconst 1, 1) := by decide +kernel
theorem dL_comes_7 : decode cL_comes 7 = .ok (.iload 5, 2) := by decide +kernel
theorem dL_comes_9 : decode cL_comes 9 = .ok (.iastore, 1) := by decide +kernel
theorem dL_comes_10 : decode cL_comes 10 = .ok (.aload_n 2, 1) := by decide +kernel
theorem dL_comes_11 : decode cL_comes 11 = .ok (.bipush 10, 2) := by decide +kernel
theorem dL_comes_13 : decode cL_comes 13 = .ok (.iload 5, 2) := by decide +kernel
theorem dL_comes_15 : decode cL_comes 15 = .ok (.iastore, 1) := by decide +kernel
theorem dL_comes_16 : decode cL_comes 16 = .ok (.aload_n 2, 1) := by decide +kernel
theorem dL_comes_17 : decode cL_comes 17 = .ok (.iconst 4, 1) := by decide +kernel
theorem dL_comes_18 : decode cL_comes 18 = .ok (.iconst 0, 1) := by decide +kernel
theorem dL_comes_19 : decode cL_comes 19 = .ok (.iastore, 1) := by decide +kernel
theorem dL_comes_20 : decode cL_comes 20 = .ok (.aload_n 2, 1) := by decide +kernel
theorem dL_comes_21 : decode cL_comes 21 = .ok (.bipush 7, 2) := by decide +kernel
theorem dL_comes_23 : decode cL_comes 23 = .ok (.aload_n 0, 1) := by decide +kernel
theorem dL_comes_24 : decode cL_comes 24 = .ok (.iload_n 1, 1) := by decide +kernel
theorem dL_comes_25 : decode cL_comes 25 = .ok (.iconst 1, 1) := by decide +kernel
theorem dL_comes_26 : decode cL_comes 26 = .ok (.invokevirtual 20, 3) := by decide +kernel
theorem dL_comes_29 : decode cL_comes 29 = .ok (.aload_n 0, 1) := by decide +kernel
theorem dL_comes_30 : decode cL_comes 30 = .ok (.iload_n 1, 1) := by decide +kernel
theorem dL_comes_31 : decode cL_comes 31 = .ok (.bipush 9, 2) := by decide +kernel
theorem dL_comes_33 : decode cL_comes 33 = .ok (.invokevirtual 20, 3) := by decide +kernel
theorem dL_comes_36 : decode cL_comes 36 = .ok (.iadd, 1) := by decide +kernel
theorem dL_comes_37 : decode cL_comes 37 = .ok (.iastore, 1) := by decide +kernel
theorem dL_comes_38 : decode cL_comes 38 = .ok (.return_, 1) := by decide +kernel
