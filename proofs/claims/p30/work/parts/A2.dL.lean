theorem dL_cell_0 : decode cL_cell 0 = .ok (.iload_n 1, 1) := by decide +kernel
theorem dL_cell_1 : decode cL_cell 1 = .ok (.aload_n 0, 1) := by decide +kernel
theorem dL_cell_2 : decode cL_cell 2 = .ok (.arraylength, 1) := by decide +kernel
theorem dL_cell_3 : decode cL_cell 3 = .ok (.if_icmp .ge 9, 3) := by decide +kernel
theorem dL_cell_6 : decode cL_cell 6 = .ok (.aload_n 0, 1) := by decide +kernel
theorem dL_cell_7 : decode cL_cell 7 = .ok (.iload_n 1, 1) := by decide +kernel
theorem dL_cell_8 : decode cL_cell 8 = .ok (.iaload, 1) := by decide +kernel
theorem dL_cell_9 : decode cL_cell 9 = .ok (.goto 11, 3) := by decide +kernel
theorem dL_cell_12 : decode cL_cell 12 = .ok (.ldc 7, 2) := by decide +kernel
theorem dL_cell_14 : decode cL_cell 14 = .ok (.iload_n 1, 1) := by decide +kernel
theorem dL_cell_15 : decode cL_cell 15 = .ok (.sipush 463, 3) := by decide +kernel
theorem dL_cell_18 : decode cL_cell 18 = .ok (.iadd, 1) := by decide +kernel
theorem dL_cell_19 : decode cL_cell 19 = .ok (.imul, 1) := by decide +kernel
theorem dL_cell_20 : decode cL_cell 20 = .ok (.ireturn, 1) := by decide +kernel
theorem dL_up_0 : decode cL_up 0 = .ok (.iload_n 0, 1) := by decide +kernel
theorem dL_up_1 : decode cL_up 1 = .ok (.ldc 8, 2) := by decide +kernel
theorem dL_up_3 : decode cL_up 3 = .ok (.iand, 1) := by decide +kernel
theorem dL_up_4 : decode cL_up 4 = .ok (.iload_n 1, 1) := by decide +kernel
theorem dL_up_5 : decode cL_up 5 = .ok (.irem, 1) := by decide +kernel
theorem dL_up_6 : decode cL_up 6 = .ok (.ireturn, 1) := by decide +kernel
theorem dL_number_0 : decode cL_number 0 = .ok (.iload_n 1, 1) := by decide +kernel
theorem dL_number_1 : decode cL_number 1 = .ok (.bipush 10, 2) := by decide +kernel
theorem dL_number_3 : decode cL_number 3 = .ok (.if_icmp .lt 17, 3) := by decide +kernel
theorem dL_number_6 : decode cL_number 6 = .ok (.aload_n 0, 1) := by decide +kernel
theorem dL_number_7 : decode cL_number 7 = .ok (.bipush 48, 2) := by decide +kernel
theorem dL_number_9 : decode cL_number 9 = .ok (.iload_n 1, 1) := by decide +kernel
theorem dL_number_10 : decode cL_number 10 = .ok (.bipush 10, 2) := by decide +kernel
theorem dL_number_12 : decode cL_number 12 = .ok (.idiv, 1) := by decide +kernel
theorem dL_number_13 : decode cL_number 13 = .ok (.iadd, 1) := by decide +kernel
theorem dL_number_14 : decode cL_number 14 = .ok (.invokevirtual 9, 3) := by decide +kernel
theorem dL_number_17 : decode cL_number 17 = .ok (.ifCond .le 21, 3) := by decide +kernel
theorem dL_number_20 : decode cL_number 20 = .ok (.aload_n 0, 1) := by decide +kernel
theorem dL_number_21 : decode cL_number 21 = .ok (.bipush 48, 2) := by decide +kernel
theorem dL_number_23 : decode cL_number 23 = .ok (.iload_n 1, 1) := by decide +kernel
theorem dL_number_24 : decode cL_number 24 = .ok (.bipush 10, 2) := by decide +kernel
theorem dL_number_26 : decode cL_number 26 = .ok (.irem, 1) := by decide +kernel
theorem dL_number_27 : decode cL_number 27 = .ok (.iadd, 1) := by decide +kernel
theorem dL_number_28 : decode cL_number 28 = .ok (.invokevirtual 9, 3) := by decide +kernel
theorem dL_number_31 : decode cL_number 31 = .ok (.ifCond .le 7, 3) := by decide +kernel
theorem dL_number_34 : decode cL_number 34 = .ok (.iconst 1, 1) := by decide +kernel
theorem dL_number_35 : decode cL_number 35 = .ok (.goto 4, 3) := by decide +kernel
theorem dL_number_38 : decode cL_number 38 = .ok (.iconst 0, 1) := by decide +kernel
theorem dL_number_39 : decode cL_number 39 = .ok (.ireturn, 1) := by decide +kernel
theorem dL_tells_0 : decode cL_tells 0 = .ok (.aload_n 0, 1) := by decide +kernel
theorem dL_tells_1 : decode cL_tells 1 = .ok (.iconst 0, 1) := by decide +kernel
theorem dL_tells_2 : decode cL_tells 2 = .ok (.invokevirtual 15, 3) := by decide +kernel
theorem dL_tells_5 : decode cL_tells 5 = .ok (.aload_n 0, 1) := by decide +kernel
theorem dL_tells_6 : decode cL_tells 6 = .ok (.iconst 1, 1) := by decide +kernel
theorem dL_tells_7 : decode cL_tells 7 = .ok (.invokevirtual 15, 3) := by decide +kernel
theorem dL_tells_10 : decode cL_tells 10 = .ok (.imul, 1) := by decide +kernel
theorem dL_tells_11 : decode cL_tells 11 = .ok (.istore_n 2, 1) := by decide +kernel
theorem dL_tells_12 : decode cL_tells 12 = .ok (.aload_n 1, 1) := by decide +kernel
theorem dL_tells_13 : decode cL_tells 13 = .ok (.invokevirtual 18, 3) := by decide +kernel
theorem dL_tells_16 : decode cL_tells 16 = .ok (.ifCond .lt 37, 3) := by decide +kernel
theorem dL_tells_19 : decode cL_tells 19 = .ok (.aload_n 1, 1) := by decide +kernel
theorem dL_tells_20 : decode cL_tells 20 = .ok (.bipush 48, 2) := by decide +kernel
theorem dL_tells_22 : decode cL_tells 22 = .ok (.aload_n 0, 1) := by decide +kernel
theorem dL_tells_23 : decode cL_tells 23 = .ok (.iconst 0, 1) := by decide +kernel
theorem dL_tells_24 : decode cL_tells 24 = .ok (.invokevirtual 15, 3) := by decide +kernel
theorem dL_tells_27 : decode cL_tells 27 = .ok (.iadd, 1) := by decide +kernel
theorem dL_tells_28 : decode cL_tells 28 = .ok (.invokevirtual 9, 3) := by decide +kernel
theorem dL_tells_31 : decode cL_tells 31 = .ok (.ifCond .le 22, 3) := by decide +kernel
theorem dL_tells_34 : decode cL_tells 34 = .ok (.aload_n 1, 1) := by decide +kernel
theorem dL_tells_35 : decode cL_tells 35 = .ok (.bipush 48, 2) := by decide +kernel
theorem dL_tells_37 : decode cL_tells 37 = .ok (.aload_n 0, 1) := by decide +kernel
theorem dL_tells_38 : decode cL_tells 38 = .ok (.iconst 1, 1) := by decide +kernel
theorem dL_tells_39 : decode cL_tells 39 = .ok (.invokevirtual 15, 3) := by decide +kernel
theorem dL_tells_42 : decode cL_tells 42 = .ok (.iadd, 1) := by decide +kernel
theorem dL_tells_43 : decode cL_tells 43 = .ok (.invokevirtual 9, 3) := by decide +kernel
theorem dL_tells_46 : decode cL_tells 46 = .ok (.ifCond .le 7, 3) := by decide +kernel
theorem dL_tells_49 : decode cL_tells 49 = .ok (.iconst 1, 1) := by decide +kernel
theorem dL_tells_50 : decode cL_tells 50 = .ok (.goto 4, 3) := by decide +kernel
theorem dL_tells_53 : decode cL_tells 53 = .ok (.iconst 0, 1) := by decide +kernel
theorem dL_tells_54 : decode cL_tells 54 = .ok (.istore_n 3, 1) := by decide +kernel
theorem dL_tells_55 : decode cL_tells 55 = .ok (.iconst 0, 1) := by decide +kernel
theorem dL_tells_56 : decode cL_tells 56 = .ok (.istore 4, 2) := by decide +kernel
theorem dL_tells_58 : decode cL_tells 58 = .ok (.iload 4, 2) := by decide +kernel
theorem dL_tells_60 : decode cL_tells 60 = .ok (.iload_n 2, 1) := by decide +kernel
theorem dL_tells_61 : decode cL_tells 61 = .ok (.if_icmp .ge 52, 3) := by decide +kernel
theorem dL_tells_64 : decode cL_tells 64 = .ok (.iload_n 3, 1) := by decide +kernel
theorem dL_tells_65 : decode cL_tells 65 = .ok (.ifCond .eq 40, 3) := by decide +kernel
theorem dL_tells_68 : decode cL_tells 68 = .ok (.aload_n 1, 1) := by decide +kernel
theorem dL_tells_69 : decode cL_tells 69 = .ok (.iload 4, 2) := by decide +kernel
theorem dL_tells_71 : decode cL_tells 71 = .ok (.ifCond .ne 8, 3) := by decide +kernel
theorem dL_tells_74 : decode cL_tells 74 = .ok (.bipush 58, 2) := by decide +kernel
theorem dL_tells_76 : decode cL_tells 76 = .ok (.goto 5, 3) := by decide +kernel
theorem dL_tells_79 : decode cL_tells 79 = .ok (.bipush 44, 2) := by decide +kernel
theorem dL_tells_81 : decode cL_tells 81 = .ok (.invokevirtual 9, 3) := by decide +kernel
theorem dL_tells_84 : decode cL_tells 84 = .ok (.ifCond .le 21, 3) := by decide +kernel
theorem dL_tells_87 : decode cL_tells 87 = .ok (.aload_n 1, 1) := by decide +kernel
theorem dL_tells_88 : decode cL_tells 88 = .ok (.aload_n 0, 1) := by decide +kernel
theorem dL_tells_89 : decode cL_tells 89 = .ok (.iload 4, 2) := by decide +kernel
theorem dL_tells_91 : decode cL_tells 91 = .ok (.iconst 0, 1) := by decide +kernel
theorem dL_tells_92 : decode cL_tells 92 = .ok (.invokevirtual 22, 3) := by decide +kernel
theorem dL_tells_95 : decode cL_tells 95 = .ok (.invokestatic 26, 3) := by decide +kernel
theorem dL_tells_98 : decode cL_tells 98 = .ok (.ifCond .eq 7, 3) := by decide +kernel
theorem dL_tells_101 : decode cL_tells 101 = .ok (.iconst 1, 1) := by decide +kernel
theorem dL_tells_102 : decode cL_tells 102 = .ok (.goto 4, 3) := by decide +kernel
theorem dL_tells_105 : decode cL_tells 105 = .ok (.iconst 0, 1) := by decide +kernel
theorem dL_tells_106 : decode cL_tells 106 = .ok (.istore_n 3, 1) := by decide +kernel
theorem dL_tells_107 : decode cL_tells 107 = .ok (.iinc 4 1, 3) := by decide +kernel
theorem dL_tells_110 : decode cL_tells 110 = .ok (.goto (-52), 3) := by decide +kernel
theorem dL_tells_113 : decode cL_tells 113 = .ok (.iconst 0, 1) := by decide +kernel
theorem dL_tells_114 : decode cL_tells 114 = .ok (.istore 4, 2) := by decide +kernel
theorem dL_tells_116 : decode cL_tells 116 = .ok (.iload 4, 2) := by decide +kernel
theorem dL_tells_118 : decode cL_tells 118 = .ok (.iload_n 2, 1) := by decide +kernel
theorem dL_tells_119 : decode cL_tells 119 = .ok (.if_icmp .ge 57, 3) := by decide +kernel
theorem dL_tells_122 : decode cL_tells 122 = .ok (.aload_n 0, 1) := by decide +kernel
theorem dL_tells_123 : decode cL_tells 123 = .ok (.iload 4, 2) := by decide +kernel
theorem dL_tells_125 : decode cL_tells 125 = .ok (.iconst 1, 1) := by decide +kernel
theorem dL_tells_126 : decode cL_tells 126 = .ok (.invokevirtual 22, 3) := by decide +kernel
theorem dL_tells_129 : decode cL_tells 129 = .ok (.iconst 1, 1) := by decide +kernel
theorem dL_tells_130 : decode cL_tells 130 = .ok (.if_icmp .ne 40, 3) := by decide +kernel
theorem dL_tells_133 : decode cL_tells 133 = .ok (.iload_n 3, 1) := by decide +kernel
theorem dL_tells_134 : decode cL_tells 134 = .ok (.ifCond .eq 34, 3) := by decide +kernel
theorem dL_tells_137 : decode cL_tells 137 = .ok (.aload_n 1, 1) := by decide +kernel
theorem dL_tells_138 : decode cL_tells 138 = .ok (.bipush 59, 2) := by decide +kernel
theorem dL_tells_140 : decode cL_tells 140 = .ok (.invokevirtual 9, 3) := by decide +kernel
theorem dL_tells_143 : decode cL_tells 143 = .ok (.ifCond .le 25, 3) := by decide +kernel
theorem dL_tells_146 : decode cL_tells 146 = .ok (.aload_n 1, 1) := by decide +kernel
theorem dL_tells_147 : decode cL_tells 147 = .ok (.bipush 100, 2) := by decide +kernel
theorem dL_tells_149 : decode cL_tells 149 = .ok (.invokevirtual 9, 3) := by decide +kernel
theorem dL_tells_152 : decode cL_tells 152 = .ok (.ifCond .le 16, 3) := by decide +kernel
theorem dL_tells_155 : decode cL_tells 155 = .ok (.aload_n 1, 1) := by decide +kernel
theorem dL_tells_156 : decode cL_tells 156 = .ok (.iload 4, 2) := by decide +kernel
theorem dL_tells_158 : decode cL_tells 158 = .ok (.invokestatic 26, 3) := by decide +kernel
theorem dL_tells_161 : decode cL_tells 161 = .ok (.ifCond .eq 7, 3) := by decide +kernel
theorem dL_tells_164 : decode cL_tells 164 = .ok (.iconst 1, 1) := by decide +kernel
theorem dL_tells_165 : decode cL_tells 165 = .ok (.goto 4, 3) := by decide +kernel
theorem dL_tells_168 : decode cL_tells 168 = .ok (.iconst 0, 1) := by decide +kernel
theorem dL_tells_169 : decode cL_tells 169 = .ok (.istore_n 3, 1) := by decide +kernel
theorem dL_tells_170 : decode cL_tells 170 = .ok (.iinc 4 1, 3) := by decide +kernel
theorem dL_tells_173 : decode cL_tells 173 = .ok (.goto (-57), 3) := by decide +kernel
theorem dL_tells_176 : decode cL_tells 176 = .ok (.iload_n 3, 1) := by decide +kernel
theorem dL_tells_177 : decode cL_tells 177 = .ok (.ireturn, 1) := by decide +kernel
theorem dL_areBasins_0 : decode cL_areBasins 0 = .ok (.aload_n 0, 1) := by decide +kernel
theorem dL_areBasins_1 : decode cL_areBasins 1 = .ok (.iconst 0, 1) := by decide +kernel
theorem dL_areBasins_2 : decode cL_areBasins 2 = .ok (.invokevirtual 15, 3) := by decide +kernel
theorem dL_areBasins_5 : decode cL_areBasins 5 = .ok (.aload_n 0, 1) := by decide +kernel
theorem dL_areBasins_6 : decode cL_areBasins 6 = .ok (.iconst 1, 1) := by decide +kernel
theorem dL_areBasins_7 : decode cL_areBasins 7 = .ok (.invokevirtual 15, 3) := by decide +kernel
theorem dL_areBasins_10 : decode cL_areBasins 10 = .ok (.imul, 1) := by decide +kernel
theorem dL_areBasins_11 : decode cL_areBasins 11 = .ok (.istore_n 2, 1) := by decide +kernel
theorem dL_areBasins_12 : decode cL_areBasins 12 = .ok (.aload_n 0, 1) := by decide +kernel
theorem dL_areBasins_13 : decode cL_areBasins 13 = .ok (.iconst 2, 1) := by decide +kernel
theorem dL_areBasins_14 : decode cL_areBasins 14 = .ok (.invokevirtual 15, 3) := by decide +kernel
theorem dL_areBasins_17 : decode cL_areBasins 17 = .ok (.aload_n 1, 1) := by decide +kernel
theorem dL_areBasins_18 : decode cL_areBasins 18 = .ok (.iconst 2, 1) := by decide +kernel
theorem dL_areBasins_19 : decode cL_areBasins 19 = .ok (.invokevirtual 15, 3) := by decide +kernel
theorem dL_areBasins_22 : decode cL_areBasins 22 = .ok (.if_icmp .ne 20, 3) := by decide +kernel
theorem dL_areBasins_25 : decode cL_areBasins 25 = .ok (.aload_n 0, 1) := by decide +kernel
theorem dL_areBasins_26 : decode cL_areBasins 26 = .ok (.iconst 5, 1) := by decide +kernel
theorem dL_areBasins_27 : decode cL_areBasins 27 = .ok (.invokevirtual 15, 3) := by decide +kernel
theorem dL_areBasins_30 : decode cL_areBasins 30 = .ok (.aload_n 1, 1) := by decide +kernel
theorem dL_areBasins_31 : decode cL_areBasins 31 = .ok (.iconst 5, 1) := by decide +kernel
theorem dL_areBasins_32 : decode cL_areBasins 32 = .ok (.invokevirtual 15, 3) := by decide +kernel
theorem dL_areBasins_35 : decode cL_areBasins 35 = .ok (.if_icmp .ne 7, 3) := by decide +kernel
theorem dL_areBasins_38 : decode cL_areBasins 38 = .ok (.iconst 1, 1) := by decide +kernel
theorem dL_areBasins_39 : decode cL_areBasins 39 = .ok (.goto 4, 3) := by decide +kernel
theorem dL_areBasins_42 : decode cL_areBasins 42 = .ok (.iconst 0, 1) := by decide +kernel
theorem dL_areBasins_43 : decode cL_areBasins 43 = .ok (.istore_n 3, 1) := by decide +kernel
theorem dL_areBasins_44 : decode cL_areBasins 44 = .ok (.iconst 0, 1) := by decide +kernel
theorem dL_areBasins_45 : decode cL_areBasins 45 = .ok (.istore 4, 2) := by decide +kernel
theorem dL_areBasins_47 : decode cL_areBasins 47 = .ok (.iload 4, 2) := by decide +kernel
theorem dL_areBasins_49 : decode cL_areBasins 49 = .ok (.iload_n 2, 1) := by decide +kernel
theorem dL_areBasins_50 : decode cL_areBasins 50 = .ok (.if_icmp .ge 103, 3) := by decide +kernel
theorem dL_areBasins_53 : decode cL_areBasins 53 = .ok (.iload_n 3, 1) := by decide +kernel
theorem dL_areBasins_54 : decode cL_areBasins 54 = .ok (.ifCond .eq 91, 3) := by decide +kernel
theorem dL_areBasins_57 : decode cL_areBasins 57 = .ok (.aload_n 0, 1) := by decide +kernel
theorem dL_areBasins_58 : decode cL_areBasins 58 = .ok (.iload 4, 2) := by decide +kernel
theorem dL_areBasins_60 : decode cL_areBasins 60 = .ok (.iconst 0, 1) := by decide +kernel
theorem dL_areBasins_61 : decode cL_areBasins 61 = .ok (.invokevirtual 22, 3) := by decide +kernel
theorem dL_areBasins_64 : decode cL_areBasins 64 = .ok (.aload_n 1, 1) := by decide +kernel
theorem dL_areBasins_65 : decode cL_areBasins 65 = .ok (.iload 4, 2) := by decide +kernel
theorem dL_areBasins_67 : decode cL_areBasins 67 = .ok (.iconst 0, 1) := by decide +kernel
theorem dL_areBasins_68 : decode cL_areBasins 68 = .ok (.invokevirtual 22, 3) := by decide +kernel
theorem dL_areBasins_71 : decode cL_areBasins 71 = .ok (.if_icmp .ne 74, 3) := by decide +kernel
theorem dL_areBasins_74 : decode cL_areBasins 74 = .ok (.aload_n 0, 1) := by decide +kernel
theorem dL_areBasins_75 : decode cL_areBasins 75 = .ok (.iload 4, 2) := by decide +kernel
theorem dL_areBasins_77 : decode cL_areBasins 77 = .ok (.iconst 1, 1) := by decide +kernel
theorem dL_areBasins_78 : decode cL_areBasins 78 = .ok (.invokevirtual 22, 3) := by decide +kernel
theorem dL_areBasins_81 : decode cL_areBasins 81 = .ok (.aload_n 1, 1) := by decide +kernel
theorem dL_areBasins_82 : decode cL_areBasins 82 = .ok (.iload 4, 2) := by decide +kernel
theorem dL_areBasins_84 : decode cL_areBasins 84 = .ok (.iconst 1, 1) := by decide +kernel
theorem dL_areBasins_85 : decode cL_areBasins 85 = .ok (.invokevirtual 22, 3) := by decide +kernel
theorem dL_areBasins_88 : decode cL_areBasins 88 = .ok (.if_icmp .ne 57, 3) := by decide +kernel
theorem dL_areBasins_91 : decode cL_areBasins 91 = .ok (.aload_n 0, 1) := by decide +kernel
theorem dL_areBasins_92 : decode cL_areBasins 92 = .ok (.iload 4, 2) := by decide +kernel
theorem dL_areBasins_94 : decode cL_areBasins 94 = .ok (.iconst 2, 1) := by decide +kernel
theorem dL_areBasins_95 : decode cL_areBasins 95 = .ok (.invokevirtual 22, 3) := by decide +kernel
theorem dL_areBasins_98 : decode cL_areBasins 98 = .ok (.aload_n 1, 1) := by decide +kernel
theorem dL_areBasins_99 : decode cL_areBasins 99 = .ok (.iload 4, 2) := by decide +kernel
theorem dL_areBasins_101 : decode cL_areBasins 101 = .ok (.iconst 2, 1) := by decide +kernel
theorem dL_areBasins_102 : decode cL_areBasins 102 = .ok (.invokevirtual 22, 3) := by decide +kernel
theorem dL_areBasins_105 : decode cL_areBasins 105 = .ok (.if_icmp .ne 40, 3) := by decide +kernel
theorem dL_areBasins_108 : decode cL_areBasins 108 = .ok (.aload_n 0, 1) := by decide +kernel
theorem dL_areBasins_109 : decode cL_areBasins 109 = .ok (.iload 4, 2) := by decide +kernel
theorem dL_areBasins_111 : decode cL_areBasins 111 = .ok (.iconst 5, 1) := by decide +kernel
theorem dL_areBasins_112 : decode cL_areBasins 112 = .ok (.invokevirtual 22, 3) := by decide +kernel
theorem dL_areBasins_115 : decode cL_areBasins 115 = .ok (.aload_n 1, 1) := by decide +kernel
theorem dL_areBasins_116 : decode cL_areBasins 116 = .ok (.iload 4, 2) := by decide +kernel
theorem dL_areBasins_118 : decode cL_areBasins 118 = .ok (.iconst 5, 1) := by decide +kernel
theorem dL_areBasins_119 : decode cL_areBasins 119 = .ok (.invokevirtual 22, 3) := by decide +kernel
theorem dL_areBasins_122 : decode cL_areBasins 122 = .ok (.if_icmp .ne 23, 3) := by decide +kernel
theorem dL_areBasins_125 : decode cL_areBasins 125 = .ok (.aload_n 0, 1) := by decide +kernel
theorem dL_areBasins_126 : decode cL_areBasins 126 = .ok (.iload 4, 2) := by decide +kernel
theorem dL_areBasins_128 : decode cL_areBasins 128 = .ok (.invokevirtual 32, 3) := by decide +kernel
theorem dL_areBasins_131 : decode cL_areBasins 131 = .ok (.aload_n 1, 1) := by decide +kernel
theorem dL_areBasins_132 : decode cL_areBasins 132 = .ok (.iload 4, 2) := by decide +kernel
theorem dL_areBasins_134 : decode cL_areBasins 134 = .ok (.invokevirtual 32, 3) := by decide +kernel
theorem dL_areBasins_137 : decode cL_areBasins 137 = .ok (.lcmp, 1) := by decide +kernel
theorem dL_areBasins_138 : decode cL_areBasins 138 = .ok (.ifCond .ne 7, 3) := by decide +kernel
theorem dL_areBasins_141 : decode cL_areBasins 141 = .ok (.iconst 1, 1) := by decide +kernel
theorem dL_areBasins_142 : decode cL_areBasins 142 = .ok (.goto 4, 3) := by decide +kernel
theorem dL_areBasins_145 : decode cL_areBasins 145 = .ok (.iconst 0, 1) := by decide +kernel
theorem dL_areBasins_146 : decode cL_areBasins 146 = .ok (.istore_n 3, 1) := by decide +kernel
theorem dL_areBasins_147 : decode cL_areBasins 147 = .ok (.iinc 4 1, 3) := by decide +kernel
theorem dL_areBasins_150 : decode cL_areBasins 150 = .ok (.goto (-103), 3) := by decide +kernel
theorem dL_areBasins_153 : decode cL_areBasins 153 = .ok (.iload_n 3, 1) := by decide +kernel
theorem dL_areBasins_154 : decode cL_areBasins 154 = .ok (.ireturn, 1) := by decide +kernel
theorem dL_isSound_0 : decode cL_isSound 0 = .ok (.aload_n 0, 1) := by decide +kernel
theorem dL_isSound_1 : decode cL_isSound 1 = .ok (.iconst 0, 1) := by decide +kernel
theorem dL_isSound_2 : decode cL_isSound 2 = .ok (.invokevirtual 15, 3) := by decide +kernel
theorem dL_isSound_5 : decode cL_isSound 5 = .ok (.aload_n 0, 1) := by decide +kernel
theorem dL_isSound_6 : decode cL_isSound 6 = .ok (.iconst 1, 1) := by decide +kernel
theorem dL_isSound_7 : decode cL_isSound 7 = .ok (.invokevirtual 15, 3) := by decide +kernel
theorem dL_isSound_10 : decode cL_isSound 10 = .ok (.imul, 1) := by decide +kernel
theorem dL_isSound_11 : decode cL_isSound 11 = .ok (.istore_n 1, 1) := by decide +kernel
theorem dL_isSound_12 : decode cL_isSound 12 = .ok (.aload_n 0, 1) := by decide +kernel
theorem dL_isSound_13 : decode cL_isSound 13 = .ok (.iconst 0, 1) := by decide +kernel
theorem dL_isSound_14 : decode cL_isSound 14 = .ok (.invokevirtual 36, 3) := by decide +kernel
theorem dL_isSound_17 : decode cL_isSound 17 = .ok (.aload_n 0, 1) := by decide +kernel
theorem dL_isSound_18 : decode cL_isSound 18 = .ok (.iconst 1, 1) := by decide +kernel
theorem dL_isSound_19 : decode cL_isSound 19 = .ok (.invokevirtual 36, 3) := by decide +kernel
theorem dL_isSound_22 : decode cL_isSound 22 = .ok (.aload_n 0, 1) := by decide +kernel
theorem dL_isSound_23 : decode cL_isSound 23 = .ok (.iconst 2, 1) := by decide +kernel
theorem dL_isSound_24 : decode cL_isSound 24 = .ok (.invokevirtual 36, 3) := by decide +kernel
theorem dL_isSound_27 : decode cL_isSound 27 = .ok (.ladd, 1) := by decide +kernel
theorem dL_isSound_28 : decode cL_isSound 28 = .ok (.aload_n 0, 1) := by decide +kernel
theorem dL_isSound_29 : decode cL_isSound 29 = .ok (.iconst 3, 1) := by decide +kernel
theorem dL_isSound_30 : decode cL_isSound 30 = .ok (.invokevirtual 36, 3) := by decide +kernel
theorem dL_isSound_33 : decode cL_isSound 33 = .ok (.ladd, 1) := by decide +kernel
theorem dL_isSound_34 : decode cL_isSound 34 = .ok (.lcmp, 1) := by decide +kernel
theorem dL_isSound_35 : decode cL_isSound 35 = .ok (.ifCond .ne 63, 3) := by decide +kernel
theorem dL_isSound_38 : decode cL_isSound 38 = .ok (.aload_n 0, 1) := by decide +kernel
theorem dL_isSound_39 : decode cL_isSound 39 = .ok (.iconst 3, 1) := by decide +kernel
theorem dL_isSound_40 : decode cL_isSound 40 = .ok (.invokevirtual 15, 3) := by decide +kernel
theorem dL_isSound_43 : decode cL_isSound 43 = .ok (.aload_n 0, 1) := by decide +kernel
theorem dL_isSound_44 : decode cL_isSound 44 = .ok (.iconst 2, 1) := by decide +kernel
theorem dL_isSound_45 : decode cL_isSound 45 = .ok (.invokevirtual 15, 3) := by decide +kernel
theorem dL_isSound_48 : decode cL_isSound 48 = .ok (.if_icmp .gt 50, 3) := by decide +kernel
theorem dL_isSound_51 : decode cL_isSound 51 = .ok (.aload_n 0, 1) := by decide +kernel
theorem dL_isSound_52 : decode cL_isSound 52 = .ok (.iconst 4, 1) := by decide +kernel
theorem dL_isSound_53 : decode cL_isSound 53 = .ok (.invokevirtual 15, 3) := by decide +kernel
theorem dL_isSound_56 : decode cL_isSound 56 = .ok (.aload_n 0, 1) := by decide +kernel
theorem dL_isSound_57 : decode cL_isSound 57 = .ok (.iconst 5, 1) := by decide +kernel
theorem dL_isSound_58 : decode cL_isSound 58 = .ok (.invokevirtual 15, 3) := by decide +kernel
theorem dL_isSound_61 : decode cL_isSound 61 = .ok (.iadd, 1) := by decide +kernel
theorem dL_isSound_62 : decode cL_isSound 62 = .ok (.iload_n 1, 1) := by decide +kernel
theorem dL_isSound_63 : decode cL_isSound 63 = .ok (.if_icmp .gt 35, 3) := by decide +kernel
theorem dL_isSound_66 : decode cL_isSound 66 = .ok (.aload_n 0, 1) := by decide +kernel
theorem dL_isSound_67 : decode cL_isSound 67 = .ok (.invokevirtual 39, 3) := by decide +kernel
theorem dL_isSound_70 : decode cL_isSound 70 = .ok (.ifCond .ge 7, 3) := by decide +kernel
theorem dL_isSound_73 : decode cL_isSound 73 = .ok (.iconst 1, 1) := by decide +kernel
theorem dL_isSound_74 : decode cL_isSound 74 = .ok (.goto 4, 3) := by decide +kernel
theorem dL_isSound_77 : decode cL_isSound 77 = .ok (.iconst 0, 1) := by decide +kernel
theorem dL_isSound_78 : decode cL_isSound 78 = .ok (.aload_n 0, 1) := by decide +kernel
theorem dL_isSound_79 : decode cL_isSound 79 = .ok (.iconst 4, 1) := by decide +kernel
theorem dL_isSound_80 : decode cL_isSound 80 = .ok (.invokevirtual 15, 3) := by decide +kernel
theorem dL_isSound_83 : decode cL_isSound 83 = .ok (.ifCond .ne 7, 3) := by decide +kernel
theorem dL_isSound_86 : decode cL_isSound 86 = .ok (.iconst 1, 1) := by decide +kernel
theorem dL_isSound_87 : decode cL_isSound 87 = .ok (.goto 4, 3) := by decide +kernel
theorem dL_isSound_90 : decode cL_isSound 90 = .ok (.iconst 0, 1) := by decide +kernel
theorem dL_isSound_91 : decode cL_isSound 91 = .ok (.if_icmp .ne 7, 3) := by decide +kernel
theorem dL_isSound_94 : decode cL_isSound 94 = .ok (.iconst 1, 1) := by decide +kernel
theorem dL_isSound_95 : decode cL_isSound 95 = .ok (.goto 4, 3) := by decide +kernel
theorem dL_isSound_98 : decode cL_isSound 98 = .ok (.iconst 0, 1) := by decide +kernel
theorem dL_isSound_99 : decode cL_isSound 99 = .ok (.istore_n 2, 1) := by decide +kernel
theorem dL_isSound_100 : decode cL_isSound 100 = .ok (.iconst 0, 1) := by decide +kernel
theorem dL_isSound_101 : decode cL_isSound 101 = .ok (.istore_n 3, 1) := by decide +kernel
theorem dL_isSound_102 : decode cL_isSound 102 = .ok (.iload_n 3, 1) := by decide +kernel
theorem dL_isSound_103 : decode cL_isSound 103 = .ok (.iload_n 1, 1) := by decide +kernel
theorem dL_isSound_104 : decode cL_isSound 104 = .ok (.if_icmp .ge 224, 3) := by decide +kernel
theorem dL_isSound_107 : decode cL_isSound 107 = .ok (.aload_n 0, 1) := by decide +kernel
theorem dL_isSound_108 : decode cL_isSound 108 = .ok (.iload_n 3, 1) := by decide +kernel
theorem dL_isSound_109 : decode cL_isSound 109 = .ok (.invokevirtual 32, 3) := by decide +kernel
theorem dL_isSound_112 : decode cL_isSound 112 = .ok (.lstore 4, 2) := by decide +kernel
theorem dL_isSound_114 : decode cL_isSound 114 = .ok (.iconst 0, 1) := by decide +kernel
theorem dL_isSound_115 : decode cL_isSound 115 = .ok (.istore 6, 2) := by decide +kernel
theorem dL_isSound_117 : decode cL_isSound 117 = .ok (.iconst 0, 1) := by decide +kernel
theorem dL_isSound_118 : decode cL_isSound 118 = .ok (.istore 7, 2) := by decide +kernel
theorem dL_isSound_120 : decode cL_isSound 120 = .ok (.iconst 0, 1) := by decide +kernel
theorem dL_isSound_121 : decode cL_isSound 121 = .ok (.istore 8, 2) := by decide +kernel
theorem dL_isSound_123 : decode cL_isSound 123 = .ok (.iload 8, 2) := by decide +kernel
theorem dL_isSound_125 : decode cL_isSound 125 = .ok (.iload_n 1, 1) := by decide +kernel
theorem dL_isSound_126 : decode cL_isSound 126 = .ok (.if_icmp .ge 131, 3) := by decide +kernel
theorem dL_isSound_129 : decode cL_isSound 129 = .ok (.lload 4, 2) := by decide +kernel
theorem dL_isSound_131 : decode cL_isSound 131 = .ok (.iload 8, 2) := by decide +kernel
theorem dL_isSound_133 : decode cL_isSound 133 = .ok (.lshr, 1) := by decide +kernel
theorem dL_isSound_134 : decode cL_isSound 134 = .ok (.lconst 1, 1) := by decide +kernel
theorem dL_isSound_135 : decode cL_isSound 135 = .ok (.land, 1) := by decide +kernel
theorem dL_isSound_136 : decode cL_isSound 136 = .ok (.lconst 1, 1) := by decide +kernel
theorem dL_isSound_137 : decode cL_isSound 137 = .ok (.lcmp, 1) := by decide +kernel
theorem dL_isSound_138 : decode cL_isSound 138 = .ok (.ifCond .ne 7, 3) := by decide +kernel
theorem dL_isSound_141 : decode cL_isSound 141 = .ok (.iconst 1, 1) := by decide +kernel
theorem dL_isSound_142 : decode cL_isSound 142 = .ok (.goto 4, 3) := by decide +kernel
theorem dL_isSound_145 : decode cL_isSound 145 = .ok (.iconst 0, 1) := by decide +kernel
theorem dL_isSound_146 : decode cL_isSound 146 = .ok (.istore 9, 2) := by decide +kernel
theorem dL_isSound_148 : decode cL_isSound 148 = .ok (.iload 6, 2) := by decide +kernel
theorem dL_isSound_150 : decode cL_isSound 150 = .ok (.ifCond .ne 19, 3) := by decide +kernel
theorem dL_isSound_153 : decode cL_isSound 153 = .ok (.iload 9, 2) := by decide +kernel
theorem dL_isSound_155 : decode cL_isSound 155 = .ok (.ifCond .eq 18, 3) := by decide +kernel
theorem dL_isSound_158 : decode cL_isSound 158 = .ok (.aload_n 0, 1) := by decide +kernel
theorem dL_isSound_159 : decode cL_isSound 159 = .ok (.iload 8, 2) := by decide +kernel
theorem dL_isSound_161 : decode cL_isSound 161 = .ok (.iconst 5, 1) := by decide +kernel
theorem dL_isSound_162 : decode cL_isSound 162 = .ok (.invokevirtual 22, 3) := by decide +kernel
theorem dL_isSound_165 : decode cL_isSound 165 = .ok (.iconst 1, 1) := by decide +kernel
theorem dL_isSound_166 : decode cL_isSound 166 = .ok (.if_icmp .ne 7, 3) := by decide +kernel
theorem dL_isSound_169 : decode cL_isSound 169 = .ok (.iconst 1, 1) := by decide +kernel
theorem dL_isSound_170 : decode cL_isSound 170 = .ok (.goto 4, 3) := by decide +kernel
theorem dL_isSound_173 : decode cL_isSound 173 = .ok (.iconst 0, 1) := by decide +kernel
theorem dL_isSound_174 : decode cL_isSound 174 = .ok (.istore 6, 2) := by decide +kernel
theorem dL_isSound_176 : decode cL_isSound 176 = .ok (.iload 7, 2) := by decide +kernel
theorem dL_isSound_178 : decode cL_isSound 178 = .ok (.ifCond .ne 19, 3) := by decide +kernel
theorem dL_isSound_181 : decode cL_isSound 181 = .ok (.iload 9, 2) := by decide +kernel
theorem dL_isSound_183 : decode cL_isSound 183 = .ok (.ifCond .eq 18, 3) := by decide +kernel
theorem dL_isSound_186 : decode cL_isSound 186 = .ok (.aload_n 0, 1) := by decide +kernel
theorem dL_isSound_187 : decode cL_isSound 187 = .ok (.iload 8, 2) := by decide +kernel
theorem dL_isSound_189 : decode cL_isSound 189 = .ok (.iconst 1, 1) := by decide +kernel
theorem dL_isSound_190 : decode cL_isSound 190 = .ok (.invokevirtual 22, 3) := by decide +kernel
theorem dL_isSound_193 : decode cL_isSound 193 = .ok (.iconst 1, 1) := by decide +kernel
theorem dL_isSound_194 : decode cL_isSound 194 = .ok (.if_icmp .ne 7, 3) := by decide +kernel
theorem dL_isSound_197 : decode cL_isSound 197 = .ok (.iconst 1, 1) := by decide +kernel
theorem dL_isSound_198 : decode cL_isSound 198 = .ok (.goto 4, 3) := by decide +kernel
theorem dL_isSound_201 : decode cL_isSound 201 = .ok (.iconst 0, 1) := by decide +kernel
theorem dL_isSound_202 : decode cL_isSound 202 = .ok (.istore 7, 2) := by decide +kernel
theorem dL_isSound_204 : decode cL_isSound 204 = .ok (.iload_n 2, 1) := by decide +kernel
theorem dL_isSound_205 : decode cL_isSound 205 = .ok (.ifCond .eq 44, 3) := by decide +kernel
theorem dL_isSound_208 : decode cL_isSound 208 = .ok (.iload 9, 2) := by decide +kernel
theorem dL_isSound_210 : decode cL_isSound 210 = .ok (.ifCond .eq 35, 3) := by decide +kernel
theorem dL_isSound_213 : decode cL_isSound 213 = .ok (.aload_n 0, 1) := by decide +kernel
theorem dL_isSound_214 : decode cL_isSound 214 = .ok (.iload 8, 2) := by decide +kernel
theorem dL_isSound_216 : decode cL_isSound 216 = .ok (.iconst 0, 1) := by decide +kernel
theorem dL_isSound_217 : decode cL_isSound 217 = .ok (.invokevirtual 22, 3) := by decide +kernel
theorem dL_isSound_220 : decode cL_isSound 220 = .ok (.aload_n 0, 1) := by decide +kernel
theorem dL_isSound_221 : decode cL_isSound 221 = .ok (.iload_n 3, 1) := by decide +kernel
theorem dL_isSound_222 : decode cL_isSound 222 = .ok (.iconst 0, 1) := by decide +kernel
theorem dL_isSound_223 : decode cL_isSound 223 = .ok (.invokevirtual 22, 3) := by decide +kernel
theorem dL_isSound_226 : decode cL_isSound 226 = .ok (.if_icmp .gt 23, 3) := by decide +kernel
theorem dL_isSound_229 : decode cL_isSound 229 = .ok (.aload_n 0, 1) := by decide +kernel
theorem dL_isSound_230 : decode cL_isSound 230 = .ok (.iload 8, 2) := by decide +kernel
theorem dL_isSound_232 : decode cL_isSound 232 = .ok (.iconst 2, 1) := by decide +kernel
theorem dL_isSound_233 : decode cL_isSound 233 = .ok (.invokevirtual 22, 3) := by decide +kernel
theorem dL_isSound_236 : decode cL_isSound 236 = .ok (.aload_n 0, 1) := by decide +kernel
theorem dL_isSound_237 : decode cL_isSound 237 = .ok (.iload_n 3, 1) := by decide +kernel
theorem dL_isSound_238 : decode cL_isSound 238 = .ok (.iconst 2, 1) := by decide +kernel
theorem dL_isSound_239 : decode cL_isSound 239 = .ok (.invokevirtual 22, 3) := by decide +kernel
theorem dL_isSound_242 : decode cL_isSound 242 = .ok (.if_icmp .ne 7, 3) := by decide +kernel
theorem dL_isSound_245 : decode cL_isSound 245 = .ok (.iconst 1, 1) := by decide +kernel
theorem dL_isSound_246 : decode cL_isSound 246 = .ok (.goto 4, 3) := by decide +kernel
theorem dL_isSound_249 : decode cL_isSound 249 = .ok (.iconst 0, 1) := by decide +kernel
theorem dL_isSound_250 : decode cL_isSound 250 = .ok (.istore_n 2, 1) := by decide +kernel
theorem dL_isSound_251 : decode cL_isSound 251 = .ok (.iinc 8 1, 3) := by decide +kernel
theorem dL_isSound_254 : decode cL_isSound 254 = .ok (.goto (-131), 3) := by decide +kernel
theorem dL_isSound_257 : decode cL_isSound 257 = .ok (.iload_n 2, 1) := by decide +kernel
theorem dL_isSound_258 : decode cL_isSound 258 = .ok (.ifCond .eq 62, 3) := by decide +kernel
theorem dL_isSound_261 : decode cL_isSound 261 = .ok (.lload 4, 2) := by decide +kernel
theorem dL_isSound_263 : decode cL_isSound 263 = .ok (.iload_n 3, 1) := by decide +kernel
theorem dL_isSound_264 : decode cL_isSound 264 = .ok (.lshr, 1) := by decide +kernel
theorem dL_isSound_265 : decode cL_isSound 265 = .ok (.lconst 1, 1) := by decide +kernel
theorem dL_isSound_266 : decode cL_isSound 266 = .ok (.land, 1) := by decide +kernel
theorem dL_isSound_267 : decode cL_isSound 267 = .ok (.lconst 1, 1) := by decide +kernel
theorem dL_isSound_268 : decode cL_isSound 268 = .ok (.lcmp, 1) := by decide +kernel
theorem dL_isSound_269 : decode cL_isSound 269 = .ok (.ifCond .ne 51, 3) := by decide +kernel
theorem dL_isSound_272 : decode cL_isSound 272 = .ok (.iload 6, 2) := by decide +kernel
theorem dL_isSound_274 : decode cL_isSound 274 = .ok (.iload 7, 2) := by decide +kernel
theorem dL_isSound_276 : decode cL_isSound 276 = .ok (.if_icmp .eq 44, 3) := by decide +kernel
theorem dL_isSound_279 : decode cL_isSound 279 = .ok (.iload 7, 2) := by decide +kernel
theorem dL_isSound_281 : decode cL_isSound 281 = .ok (.aload_n 0, 1) := by decide +kernel
theorem dL_isSound_282 : decode cL_isSound 282 = .ok (.iload_n 3, 1) := by decide +kernel
theorem dL_isSound_283 : decode cL_isSound 283 = .ok (.iconst 3, 1) := by decide +kernel
theorem dL_isSound_284 : decode cL_isSound 284 = .ok (.invokevirtual 22, 3) := by decide +kernel
theorem dL_isSound_287 : decode cL_isSound 287 = .ok (.ifCond .ge 7, 3) := by decide +kernel
theorem dL_isSound_290 : decode cL_isSound 290 = .ok (.iconst 1, 1) := by decide +kernel
theorem dL_isSound_291 : decode cL_isSound 291 = .ok (.goto 4, 3) := by decide +kernel
theorem dL_isSound_294 : decode cL_isSound 294 = .ok (.iconst 0, 1) := by decide +kernel
theorem dL_isSound_295 : decode cL_isSound 295 = .ok (.if_icmp .ne 25, 3) := by decide +kernel
theorem dL_isSound_298 : decode cL_isSound 298 = .ok (.aload_n 0, 1) := by decide +kernel
theorem dL_isSound_299 : decode cL_isSound 299 = .ok (.iload_n 3, 1) := by decide +kernel
theorem dL_isSound_300 : decode cL_isSound 300 = .ok (.iconst 5, 1) := by decide +kernel
theorem dL_isSound_301 : decode cL_isSound 301 = .ok (.invokevirtual 22, 3) := by decide +kernel
theorem dL_isSound_304 : decode cL_isSound 304 = .ok (.ifCond .eq 12, 3) := by decide +kernel
theorem dL_isSound_307 : decode cL_isSound 307 = .ok (.aload_n 0, 1) := by decide +kernel
theorem dL_isSound_308 : decode cL_isSound 308 = .ok (.iload_n 3, 1) := by decide +kernel
theorem dL_isSound_309 : decode cL_isSound 309 = .ok (.iconst 2, 1) := by decide +kernel
theorem dL_isSound_310 : decode cL_isSound 310 = .ok (.invokevirtual 22, 3) := by decide +kernel
theorem dL_isSound_313 : decode cL_isSound 313 = .ok (.ifCond .lt 7, 3) := by decide +kernel
theorem dL_isSound_316 : decode cL_isSound 316 = .ok (.iconst 1, 1) := by decide +kernel
theorem dL_isSound_317 : decode cL_isSound 317 = .ok (.goto 4, 3) := by decide +kernel
theorem dL_isSound_320 : decode cL_isSound 320 = .ok (.iconst 0, 1) := by decide +kernel
theorem dL_isSound_321 : decode cL_isSound 321 = .ok (.istore_n 2, 1) := by decide +kernel
theorem dL_isSound_322 : decode cL_isSound 322 = .ok (.iinc 3 1, 3) := by decide +kernel
theorem dL_isSound_325 : decode cL_isSound 325 = .ok (.goto (-223), 3) := by decide +kernel
theorem dL_isSound_328 : decode cL_isSound 328 = .ok (.iload_n 2, 1) := by decide +kernel
theorem dL_isSound_329 : decode cL_isSound 329 = .ok (.ireturn, 1) := by decide +kernel
theorem dL_lays_0 : decode cL_lays 0 = .ok (.iconst 1, 1) := by decide +kernel
theorem dL_lays_1 : decode cL_lays 1 = .ok (.aload_n 1, 1) := by decide +kernel
theorem dL_lays_2 : decode cL_lays 2 = .ok (.iconst 0, 1) := by decide +kernel
theorem dL_lays_3 : decode cL_lays 3 = .ok (.invokestatic 42, 3) := by decide +kernel
theorem dL_lays_6 : decode cL_lays 6 = .ok (.iconst 5, 1) := by decide +kernel
theorem dL_lays_7 : decode cL_lays 7 = .ok (.invokestatic 45, 3) := by decide +kernel
theorem dL_lays_10 : decode cL_lays 10 = .ok (.iadd, 1) := by decide +kernel
theorem dL_lays_11 : decode cL_lays 11 = .ok (.istore_n 2, 1) := by decide +kernel
theorem dL_lays_12 : decode cL_lays 12 = .ok (.iconst 1, 1) := by decide +kernel
theorem dL_lays_13 : decode cL_lays 13 = .ok (.aload_n 1, 1) := by decide +kernel
theorem dL_lays_14 : decode cL_lays 14 = .ok (.iconst 1, 1) := by decide +kernel
theorem dL_lays_15 : decode cL_lays 15 = .ok (.invokestatic 42, 3) := by decide +kernel
theorem dL_lays_18 : decode cL_lays 18 = .ok (.iconst 5, 1) := by decide +kernel
theorem dL_lays_19 : decode cL_lays 19 = .ok (.invokestatic 45, 3) := by decide +kernel
theorem dL_lays_22 : decode cL_lays 22 = .ok (.iadd, 1) := by decide +kernel
theorem dL_lays_23 : decode cL_lays 23 = .ok (.istore_n 3, 1) := by decide +kernel
theorem dL_lays_24 : decode cL_lays 24 = .ok (.aload_n 0, 1) := by decide +kernel
theorem dL_lays_25 : decode cL_lays 25 = .ok (.iload_n 2, 1) := by decide +kernel
theorem dL_lays_26 : decode cL_lays 26 = .ok (.iload_n 3, 1) := by decide +kernel
theorem dL_lays_27 : decode cL_lays 27 = .ok (.invokevirtual 48, 3) := by decide +kernel
theorem dL_lays_30 : decode cL_lays 30 = .ok (.iload_n 2, 1) := by decide +kernel
theorem dL_lays_31 : decode cL_lays 31 = .ok (.iload_n 3, 1) := by decide +kernel
theorem dL_lays_32 : decode cL_lays 32 = .ok (.imul, 1) := by decide +kernel
theorem dL_lays_33 : decode cL_lays 33 = .ok (.if_icmp .ne 49, 3) := by decide +kernel
theorem dL_lays_36 : decode cL_lays 36 = .ok (.aload_n 0, 1) := by decide +kernel
theorem dL_lays_37 : decode cL_lays 37 = .ok (.aload_n 1, 1) := by decide +kernel
theorem dL_lays_38 : decode cL_lays 38 = .ok (.iconst 2, 1) := by decide +kernel
theorem dL_lays_39 : decode cL_lays 39 = .ok (.invokestatic 42, 3) := by decide +kernel
theorem dL_lays_42 : decode cL_lays 42 = .ok (.ldc 51, 2) := by decide +kernel
theorem dL_lays_44 : decode cL_lays 44 = .ok (.invokestatic 45, 3) := by decide +kernel
theorem dL_lays_47 : decode cL_lays 47 = .ok (.aload_n 1, 1) := by decide +kernel
theorem dL_lays_48 : decode cL_lays 48 = .ok (.iconst 3, 1) := by decide +kernel
theorem dL_lays_49 : decode cL_lays 49 = .ok (.invokestatic 42, 3) := by decide +kernel
theorem dL_lays_52 : decode cL_lays 52 = .ok (.aload_n 1, 1) := by decide +kernel
theorem dL_lays_53 : decode cL_lays 53 = .ok (.iconst 3, 1) := by decide +kernel
theorem dL_lays_54 : decode cL_lays 54 = .ok (.invokestatic 42, 3) := by decide +kernel
theorem dL_lays_57 : decode cL_lays 57 = .ok (.iconst 1, 1) := by decide +kernel
theorem dL_lays_58 : decode cL_lays 58 = .ok (.iand, 1) := by decide +kernel
theorem dL_lays_59 : decode cL_lays 59 = .ok (.ifCond .ne 8, 3) := by decide +kernel
theorem dL_lays_62 : decode cL_lays 62 = .ok (.bipush 8, 2) := by decide +kernel
theorem dL_lays_64 : decode cL_lays 64 = .ok (.goto 5, 3) := by decide +kernel
theorem dL_lays_67 : decode cL_lays 67 = .ok (.bipush 100, 2) := by decide +kernel
theorem dL_lays_69 : decode cL_lays 69 = .ok (.invokestatic 45, 3) := by decide +kernel
theorem dL_lays_72 : decode cL_lays 72 = .ok (.invokevirtual 52, 3) := by decide +kernel
theorem dL_lays_75 : decode cL_lays 75 = .ok (.ifCond .lt 7, 3) := by decide +kernel
theorem dL_lays_78 : decode cL_lays 78 = .ok (.iconst 1, 1) := by decide +kernel
theorem dL_lays_79 : decode cL_lays 79 = .ok (.goto 4, 3) := by decide +kernel
theorem dL_lays_82 : decode cL_lays 82 = .ok (.iconst 0, 1) := by decide +kernel
theorem dL_lays_83 : decode cL_lays 83 = .ok (.istore 4, 2) := by decide +kernel
theorem dL_lays_85 : decode cL_lays 85 = .ok (.iconst 0, 1) := by decide +kernel
theorem dL_lays_86 : decode cL_lays 86 = .ok (.istore 5, 2) := by decide +kernel
theorem dL_lays_88 : decode cL_lays 88 = .ok (.iload 5, 2) := by decide +kernel
theorem dL_lays_90 : decode cL_lays 90 = .ok (.iconst 3, 1) := by decide +kernel
theorem dL_lays_91 : decode cL_lays 91 = .ok (.if_icmp .ge 76, 3) := by decide +kernel
theorem dL_lays_94 : decode cL_lays 94 = .ok (.aload_n 1, 1) := by decide +kernel
theorem dL_lays_95 : decode cL_lays 95 = .ok (.iconst 4, 1) := by decide +kernel
theorem dL_lays_96 : decode cL_lays 96 = .ok (.iload 5, 2) := by decide +kernel
theorem dL_lays_98 : decode cL_lays 98 = .ok (.iadd, 1) := by decide +kernel
theorem dL_lays_99 : decode cL_lays 99 = .ok (.invokestatic 42, 3) := by decide +kernel
theorem dL_lays_102 : decode cL_lays 102 = .ok (.istore 6, 2) := by decide +kernel
theorem dL_lays_104 : decode cL_lays 104 = .ok (.iload 6, 2) := by decide +kernel
theorem dL_lays_106 : decode cL_lays 106 = .ok (.iconst 3, 1) := by decide +kernel
theorem dL_lays_107 : decode cL_lays 107 = .ok (.iand, 1) := by decide +kernel
theorem dL_lays_108 : decode cL_lays 108 = .ok (.ifCond .ne 25, 3) := by decide +kernel
theorem dL_lays_111 : decode cL_lays 111 = .ok (.aload_n 0, 1) := by decide +kernel
theorem dL_lays_112 : decode cL_lays 112 = .ok (.iload 6, 2) := by decide +kernel
theorem dL_lays_114 : decode cL_lays 114 = .ok (.iconst 2, 1) := by decide +kernel
theorem dL_lays_115 : decode cL_lays 115 = .ok (.ishr, 1) := by decide +kernel
theorem dL_lays_116 : decode cL_lays 116 = .ok (.iload_n 2, 1) := by decide +kernel
theorem dL_lays_117 : decode cL_lays 117 = .ok (.iload_n 3, 1) := by decide +kernel
theorem dL_lays_118 : decode cL_lays 118 = .ok (.imul, 1) := by decide +kernel
theorem dL_lays_119 : decode cL_lays 119 = .ok (.invokestatic 45, 3) := by decide +kernel
theorem dL_lays_122 : decode cL_lays 122 = .ok (.iconst 1, 1) := by decide +kernel
theorem dL_lays_123 : decode cL_lays 123 = .ok (.invokevirtual 55, 3) := by decide +kernel
theorem dL_lays_126 : decode cL_lays 126 = .ok (.ifCond .eq 7, 3) := by decide +kernel
theorem dL_lays_129 : decode cL_lays 129 = .ok (.iconst 1, 1) := by decide +kernel
theorem dL_lays_130 : decode cL_lays 130 = .ok (.goto 4, 3) := by decide +kernel
theorem dL_lays_133 : decode cL_lays 133 = .ok (.iconst 0, 1) := by decide +kernel
theorem dL_lays_134 : decode cL_lays 134 = .ok (.istore 7, 2) := by decide +kernel
theorem dL_lays_136 : decode cL_lays 136 = .ok (.iload 4, 2) := by decide +kernel
theorem dL_lays_138 : decode cL_lays 138 = .ok (.ifCond .eq 20, 3) := by decide +kernel
theorem dL_lays_141 : decode cL_lays 141 = .ok (.iload 7, 2) := by decide +kernel
theorem dL_lays_143 : decode cL_lays 143 = .ok (.ifCond .eq 11, 3) := by decide +kernel
theorem dL_lays_146 : decode cL_lays 146 = .ok (.aload_n 0, 1) := by decide +kernel
theorem dL_lays_147 : decode cL_lays 147 = .ok (.iconst 5, 1) := by decide +kernel
theorem dL_lays_148 : decode cL_lays 148 = .ok (.invokevirtual 15, 3) := by decide +kernel
theorem dL_lays_151 : decode cL_lays 151 = .ok (.ifCond .le 7, 3) := by decide +kernel
theorem dL_lays_154 : decode cL_lays 154 = .ok (.iconst 1, 1) := by decide +kernel
theorem dL_lays_155 : decode cL_lays 155 = .ok (.goto 4, 3) := by decide +kernel
theorem dL_lays_158 : decode cL_lays 158 = .ok (.iconst 0, 1) := by decide +kernel
theorem dL_lays_159 : decode cL_lays 159 = .ok (.istore 4, 2) := by decide +kernel
theorem dL_lays_161 : decode cL_lays 161 = .ok (.iinc 5 1, 3) := by decide +kernel
theorem dL_lays_164 : decode cL_lays 164 = .ok (.goto (-76), 3) := by decide +kernel
theorem dL_lays_167 : decode cL_lays 167 = .ok (.iload 4, 2) := by decide +kernel
theorem dL_lays_169 : decode cL_lays 169 = .ok (.ireturn, 1) := by decide +kernel
theorem dL_isRaised_0 : decode cL_isRaised 0 = .ok (.aload_n 0, 1) := by decide +kernel
theorem dL_isRaised_1 : decode cL_isRaised 1 = .ok (.iconst 0, 1) := by decide +kernel
theorem dL_isRaised_2 : decode cL_isRaised 2 = .ok (.invokevirtual 15, 3) := by decide +kernel
theorem dL_isRaised_5 : decode cL_isRaised 5 = .ok (.aload_n 0, 1) := by decide +kernel
theorem dL_isRaised_6 : decode cL_isRaised 6 = .ok (.iconst 1, 1) := by decide +kernel
theorem dL_isRaised_7 : decode cL_isRaised 7 = .ok (.invokevirtual 15, 3) := by decide +kernel
theorem dL_isRaised_10 : decode cL_isRaised 10 = .ok (.imul, 1) := by decide +kernel
theorem dL_isRaised_11 : decode cL_isRaised 11 = .ok (.istore_n 3, 1) := by decide +kernel
theorem dL_isRaised_12 : decode cL_isRaised 12 = .ok (.lconst 0, 1) := by decide +kernel
theorem dL_isRaised_13 : decode cL_isRaised 13 = .ok (.lstore 4, 2) := by decide +kernel
theorem dL_isRaised_15 : decode cL_isRaised 15 = .ok (.iconst 0, 1) := by decide +kernel
theorem dL_isRaised_16 : decode cL_isRaised 16 = .ok (.istore 6, 2) := by decide +kernel
theorem dL_isRaised_18 : decode cL_isRaised 18 = .ok (.iload 6, 2) := by decide +kernel
theorem dL_isRaised_20 : decode cL_isRaised 20 = .ok (.iload_n 3, 1) := by decide +kernel
theorem dL_isRaised_21 : decode cL_isRaised 21 = .ok (.if_icmp .ge 25, 3) := by decide +kernel
theorem dL_isRaised_24 : decode cL_isRaised 24 = .ok (.lload 4, 2) := by decide +kernel
theorem dL_isRaised_26 : decode cL_isRaised 26 = .ok (.aload_n 0, 1) := by decide +kernel
theorem dL_isRaised_27 : decode cL_isRaised 27 = .ok (.iload 6, 2) := by decide +kernel
theorem dL_isRaised_29 : decode cL_isRaised 29 = .ok (.iconst 4, 1) := by decide +kernel
theorem dL_isRaised_30 : decode cL_isRaised 30 = .ok (.invokevirtual 22, 3) := by decide +kernel
theorem dL_isRaised_33 : decode cL_isRaised 33 = .ok (.i2l, 1) := by decide +kernel
theorem dL_isRaised_34 : decode cL_isRaised 34 = .ok (.iload 6, 2) := by decide +kernel
theorem dL_isRaised_36 : decode cL_isRaised 36 = .ok (.lshl, 1) := by decide +kernel
theorem dL_isRaised_37 : decode cL_isRaised 37 = .ok (.lor, 1) := by decide +kernel
theorem dL_isRaised_38 : decode cL_isRaised 38 = .ok (.lstore 4, 2) := by decide +kernel
theorem dL_isRaised_40 : decode cL_isRaised 40 = .ok (.iinc 6 1, 3) := by decide +kernel
theorem dL_isRaised_43 : decode cL_isRaised 43 = .ok (.goto (-25), 3) := by decide +kernel
theorem dL_isRaised_46 : decode cL_isRaised 46 = .ok (.aload_n 0, 1) := by decide +kernel
theorem dL_isRaised_47 : decode cL_isRaised 47 = .ok (.iload_n 1, 1) := by decide +kernel
theorem dL_isRaised_48 : decode cL_isRaised 48 = .ok (.invokevirtual 59, 3) := by decide +kernel
theorem dL_isRaised_51 : decode cL_isRaised 51 = .ok (.dstore 6, 2) := by decide +kernel
theorem dL_isRaised_53 : decode cL_isRaised 53 = .ok (.aload_n 0, 1) := by decide +kernel
theorem dL_isRaised_54 : decode cL_isRaised 54 = .ok (.iconst 1, 1) := by decide +kernel
theorem dL_isRaised_55 : decode cL_isRaised 55 = .ok (.invokevirtual 36, 3) := by decide +kernel
theorem dL_isRaised_58 : decode cL_isRaised 58 = .ok (.lstore 8, 2) := by decide +kernel
theorem dL_isRaised_60 : decode cL_isRaised 60 = .ok (.aload_n 0, 1) := by decide +kernel
theorem dL_isRaised_61 : decode cL_isRaised 61 = .ok (.iconst 2, 1) := by decide +kernel
theorem dL_isRaised_62 : decode cL_isRaised 62 = .ok (.invokevirtual 36, 3) := by decide +kernel
theorem dL_isRaised_65 : decode cL_isRaised 65 = .ok (.lstore 10, 2) := by decide +kernel
theorem dL_isRaised_67 : decode cL_isRaised 67 = .ok (.aload_n 0, 1) := by decide +kernel
theorem dL_isRaised_68 : decode cL_isRaised 68 = .ok (.iload_n 1, 1) := by decide +kernel
theorem dL_isRaised_69 : decode cL_isRaised 69 = .ok (.iload_n 2, 1) := by decide +kernel
theorem dL_isRaised_70 : decode cL_isRaised 70 = .ok (.invokevirtual 63, 3) := by decide +kernel
theorem dL_isRaised_73 : decode cL_isRaised 73 = .ok (.ifCond .lt 41, 3) := by decide +kernel
theorem dL_isRaised_76 : decode cL_isRaised 76 = .ok (.aload_n 0, 1) := by decide +kernel
theorem dL_isRaised_77 : decode cL_isRaised 77 = .ok (.iconst 1, 1) := by decide +kernel
theorem dL_isRaised_78 : decode cL_isRaised 78 = .ok (.invokevirtual 36, 3) := by decide +kernel
theorem dL_isRaised_81 : decode cL_isRaised 81 = .ok (.aload_n 0, 1) := by decide +kernel
theorem dL_isRaised_82 : decode cL_isRaised 82 = .ok (.iconst 2, 1) := by decide +kernel
theorem dL_isRaised_83 : decode cL_isRaised 83 = .ok (.invokevirtual 36, 3) := by decide +kernel
theorem dL_isRaised_86 : decode cL_isRaised 86 = .ok (.ladd, 1) := by decide +kernel
theorem dL_isRaised_87 : decode cL_isRaised 87 = .ok (.lload 8, 2) := by decide +kernel
theorem dL_isRaised_89 : decode cL_isRaised 89 = .ok (.lload 10, 2) := by decide +kernel
theorem dL_isRaised_91 : decode cL_isRaised 91 = .ok (.ladd, 1) := by decide +kernel
theorem dL_isRaised_92 : decode cL_isRaised 92 = .ok (.iload_n 2, 1) := by decide +kernel
theorem dL_isRaised_93 : decode cL_isRaised 93 = .ok (.i2l, 1) := by decide +kernel
theorem dL_isRaised_94 : decode cL_isRaised 94 = .ok (.ladd, 1) := by decide +kernel
theorem dL_isRaised_95 : decode cL_isRaised 95 = .ok (.lcmp, 1) := by decide +kernel
theorem dL_isRaised_96 : decode cL_isRaised 96 = .ok (.ifCond .ne 18, 3) := by decide +kernel
theorem dL_isRaised_99 : decode cL_isRaised 99 = .ok (.aload_n 0, 1) := by decide +kernel
theorem dL_isRaised_100 : decode cL_isRaised 100 = .ok (.iload_n 1, 1) := by decide +kernel
theorem dL_isRaised_101 : decode cL_isRaised 101 = .ok (.invokevirtual 59, 3) := by decide +kernel
theorem dL_isRaised_104 : decode cL_isRaised 104 = .ok (.dload 6, 2) := by decide +kernel
theorem dL_isRaised_106 : decode cL_isRaised 106 = .ok (.dcmp .l, 1) := by decide +kernel
theorem dL_isRaised_107 : decode cL_isRaised 107 = .ok (.ifCond .lt 7, 3) := by decide +kernel
theorem dL_isRaised_110 : decode cL_isRaised 110 = .ok (.iconst 1, 1) := by decide +kernel
theorem dL_isRaised_111 : decode cL_isRaised 111 = .ok (.goto 4, 3) := by decide +kernel
theorem dL_isRaised_114 : decode cL_isRaised 114 = .ok (.iconst 0, 1) := by decide +kernel
theorem dL_isRaised_115 : decode cL_isRaised 115 = .ok (.istore 12, 2) := by decide +kernel
theorem dL_isRaised_117 : decode cL_isRaised 117 = .ok (.iconst 0, 1) := by decide +kernel
theorem dL_isRaised_118 : decode cL_isRaised 118 = .ok (.istore 13, 2) := by decide +kernel
theorem dL_isRaised_120 : decode cL_isRaised 120 = .ok (.iload 13, 2) := by decide +kernel
theorem dL_isRaised_122 : decode cL_isRaised 122 = .ok (.iload_n 3, 1) := by decide +kernel
theorem dL_isRaised_123 : decode cL_isRaised 123 = .ok (.if_icmp .ge 44, 3) := by decide +kernel
theorem dL_isRaised_126 : decode cL_isRaised 126 = .ok (.iload 12, 2) := by decide +kernel
theorem dL_isRaised_128 : decode cL_isRaised 128 = .ok (.ifCond .eq 30, 3) := by decide +kernel
theorem dL_isRaised_131 : decode cL_isRaised 131 = .ok (.lload 4, 2) := by decide +kernel
theorem dL_isRaised_133 : decode cL_isRaised 133 = .ok (.iload 13, 2) := by decide +kernel
theorem dL_isRaised_135 : decode cL_isRaised 135 = .ok (.lshr, 1) := by decide +kernel
theorem dL_isRaised_136 : decode cL_isRaised 136 = .ok (.lconst 1, 1) := by decide +kernel
theorem dL_isRaised_137 : decode cL_isRaised 137 = .ok (.land, 1) := by decide +kernel
theorem dL_isRaised_138 : decode cL_isRaised 138 = .ok (.lconst 0, 1) := by decide +kernel
theorem dL_isRaised_139 : decode cL_isRaised 139 = .ok (.lcmp, 1) := by decide +kernel
theorem dL_isRaised_140 : decode cL_isRaised 140 = .ok (.ifCond .eq 14, 3) := by decide +kernel
theorem dL_isRaised_143 : decode cL_isRaised 143 = .ok (.aload_n 0, 1) := by decide +kernel
theorem dL_isRaised_144 : decode cL_isRaised 144 = .ok (.iload 13, 2) := by decide +kernel
theorem dL_isRaised_146 : decode cL_isRaised 146 = .ok (.iconst 4, 1) := by decide +kernel
theorem dL_isRaised_147 : decode cL_isRaised 147 = .ok (.invokevirtual 22, 3) := by decide +kernel
theorem dL_isRaised_150 : decode cL_isRaised 150 = .ok (.iconst 1, 1) := by decide +kernel
theorem dL_isRaised_151 : decode cL_isRaised 151 = .ok (.if_icmp .ne 7, 3) := by decide +kernel
theorem dL_isRaised_154 : decode cL_isRaised 154 = .ok (.iconst 1, 1) := by decide +kernel
theorem dL_isRaised_155 : decode cL_isRaised 155 = .ok (.goto 4, 3) := by decide +kernel
theorem dL_isRaised_158 : decode cL_isRaised 158 = .ok (.iconst 0, 1) := by decide +kernel
theorem dL_isRaised_159 : decode cL_isRaised 159 = .ok (.istore 12, 2) := by decide +kernel
theorem dL_isRaised_161 : decode cL_isRaised 161 = .ok (.iinc 13 1, 3) := by decide +kernel
theorem dL_isRaised_164 : decode cL_isRaised 164 = .ok (.goto (-44), 3) := by decide +kernel
theorem dL_isRaised_167 : decode cL_isRaised 167 = .ok (.iload 12, 2) := by decide +kernel
theorem dL_isRaised_169 : decode cL_isRaised 169 = .ok (.ireturn, 1) := by decide +kernel
theorem dL_law_0 : decode cL_law 0 = .ok (.new 10, 3) := by decide +kernel
theorem dL_law_3 : decode cL_law 3 = .ok (.dup, 1) := by decide +kernel
theorem dL_law_4 : decode cL_law 4 = .ok (.invokespecial 66, 3) := by decide +kernel
theorem dL_law_7 : decode cL_law 7 = .ok (.astore_n 1, 1) := by decide +kernel
theorem dL_law_8 : decode cL_law 8 = .ok (.new 10, 3) := by decide +kernel
theorem dL_law_11 : decode cL_law 11 = .ok (.dup, 1) := by decide +kernel
theorem dL_law_12 : decode cL_law 12 = .ok (.invokespecial 66, 3) := by decide +kernel
theorem dL_law_15 : decode cL_law 15 = .ok (.astore_n 2, 1) := by decide +kernel
theorem dL_law_16 : decode cL_law 16 = .ok (.aload_n 1, 1) := by decide +kernel
theorem dL_law_17 : decode cL_law 17 = .ok (.aload_n 0, 1) := by decide +kernel
theorem dL_law_18 : decode cL_law 18 = .ok (.invokestatic 67, 3) := by decide +kernel
theorem dL_law_21 : decode cL_law 21 = .ok (.ifCond .eq 42, 3) := by decide +kernel
theorem dL_law_24 : decode cL_law 24 = .ok (.aload_n 1, 1) := by decide +kernel
theorem dL_law_25 : decode cL_law 25 = .ok (.aload_n 2, 1) := by decide +kernel
theorem dL_law_26 : decode cL_law 26 = .ok (.invokestatic 71, 3) := by decide +kernel
theorem dL_law_29 : decode cL_law 29 = .ok (.ifCond .eq 34, 3) := by decide +kernel
theorem dL_law_32 : decode cL_law 32 = .ok (.aload_n 2, 1) := by decide +kernel
theorem dL_law_33 : decode cL_law 33 = .ok (.invokevirtual 75, 3) := by decide +kernel
theorem dL_law_36 : decode cL_law 36 = .ok (.aload_n 1, 1) := by decide +kernel
theorem dL_law_37 : decode cL_law 37 = .ok (.iconst 2, 1) := by decide +kernel
theorem dL_law_38 : decode cL_law 38 = .ok (.invokevirtual 15, 3) := by decide +kernel
theorem dL_law_41 : decode cL_law 41 = .ok (.if_icmp .ne 22, 3) := by decide +kernel
theorem dL_law_44 : decode cL_law 44 = .ok (.aload_n 1, 1) := by decide +kernel
theorem dL_law_45 : decode cL_law 45 = .ok (.aload_n 2, 1) := by decide +kernel
theorem dL_law_46 : decode cL_law 46 = .ok (.invokestatic 78, 3) := by decide +kernel
theorem dL_law_49 : decode cL_law 49 = .ok (.ifCond .eq 14, 3) := by decide +kernel
theorem dL_law_52 : decode cL_law 52 = .ok (.aload_n 1, 1) := by decide +kernel
theorem dL_law_53 : decode cL_law 53 = .ok (.invokestatic 81, 3) := by decide +kernel
theorem dL_law_56 : decode cL_law 56 = .ok (.ifCond .eq 7, 3) := by decide +kernel
theorem dL_law_59 : decode cL_law 59 = .ok (.iconst 1, 1) := by decide +kernel
theorem dL_law_60 : decode cL_law 60 = .ok (.goto 4, 3) := by decide +kernel
theorem dL_law_63 : decode cL_law 63 = .ok (.iconst 0, 1) := by decide +kernel
theorem dL_law_64 : decode cL_law 64 = .ok (.istore_n 3, 1) := by decide +kernel
theorem dL_law_65 : decode cL_law 65 = .ok (.aload_n 1, 1) := by decide +kernel
theorem dL_law_66 : decode cL_law 66 = .ok (.iconst 0, 1) := by decide +kernel
theorem dL_law_67 : decode cL_law 67 = .ok (.invokevirtual 15, 3) := by decide +kernel
theorem dL_law_70 : decode cL_law 70 = .ok (.aload_n 1, 1) := by decide +kernel
theorem dL_law_71 : decode cL_law 71 = .ok (.iconst 1, 1) := by decide +kernel
theorem dL_law_72 : decode cL_law 72 = .ok (.invokevirtual 15, 3) := by decide +kernel
theorem dL_law_75 : decode cL_law 75 = .ok (.imul, 1) := by decide +kernel
theorem dL_law_76 : decode cL_law 76 = .ok (.istore 4, 2) := by decide +kernel
theorem dL_law_78 : decode cL_law 78 = .ok (.iconst 0, 1) := by decide +kernel
theorem dL_law_79 : decode cL_law 79 = .ok (.istore 5, 2) := by decide +kernel
theorem dL_law_81 : decode cL_law 81 = .ok (.iload 5, 2) := by decide +kernel
theorem dL_law_83 : decode cL_law 83 = .ok (.bipush 12, 2) := by decide +kernel
theorem dL_law_85 : decode cL_law 85 = .ok (.if_icmp .ge 238, 3) := by decide +kernel
theorem dL_law_88 : decode cL_law 88 = .ok (.iload_n 3, 1) := by decide +kernel
theorem dL_law_89 : decode cL_law 89 = .ok (.ifCond .eq 234, 3) := by decide +kernel
theorem dL_law_92 : decode cL_law 92 = .ok (.aload_n 0, 1) := by decide +kernel
theorem dL_law_93 : decode cL_law 93 = .ok (.bipush 10, 2) := by decide +kernel
theorem dL_law_95 : decode cL_law 95 = .ok (.iload 5, 2) := by decide +kernel
theorem dL_law_97 : decode cL_law 97 = .ok (.iadd, 1) := by decide +kernel
theorem dL_law_98 : decode cL_law 98 = .ok (.invokestatic 42, 3) := by decide +kernel
theorem dL_law_101 : decode cL_law 101 = .ok (.istore 6, 2) := by decide +kernel
theorem dL_law_103 : decode cL_law 103 = .ok (.iload 6, 2) := by decide +kernel
theorem dL_law_105 : decode cL_law 105 = .ok (.iconst 3, 1) := by decide +kernel
theorem dL_law_106 : decode cL_law 106 = .ok (.ishr, 1) := by decide +kernel
theorem dL_law_107 : decode cL_law 107 = .ok (.iload 4, 2) := by decide +kernel
theorem dL_law_109 : decode cL_law 109 = .ok (.invokestatic 45, 3) := by decide +kernel
theorem dL_law_112 : decode cL_law 112 = .ok (.istore 7, 2) := by decide +kernel
theorem dL_law_114 : decode cL_law 114 = .ok (.iload 6, 2) := by decide +kernel
theorem dL_law_116 : decode cL_law 116 = .ok (.bipush 9, 2) := by decide +kernel
theorem dL_law_118 : decode cL_law 118 = .ok (.ishr, 1) := by decide +kernel
theorem dL_law_119 : decode cL_law 119 = .ok (.iload 6, 2) := by decide +kernel
theorem dL_law_121 : decode cL_law 121 = .ok (.bipush 8, 2) := by decide +kernel
theorem dL_law_123 : decode cL_law 123 = .ok (.ishr, 1) := by decide +kernel
theorem dL_law_124 : decode cL_law 124 = .ok (.iconst 1, 1) := by decide +kernel
theorem dL_law_125 : decode cL_law 125 = .ok (.iand, 1) := by decide +kernel
theorem dL_law_126 : decode cL_law 126 = .ok (.ifCond .ne 8, 3) := by decide +kernel
theorem dL_law_129 : decode cL_law 129 = .ok (.bipush 10, 2) := by decide +kernel
theorem dL_law_131 : decode cL_law 131 = .ok (.goto 6, 3) := by decide +kernel
theorem dL_law_134 : decode cL_law 134 = .ok (.sipush 300, 3) := by decide +kernel
theorem dL_law_137 : decode cL_law 137 = .ok (.invokestatic 45, 3) := by decide +kernel
theorem dL_law_140 : decode cL_law 140 = .ok (.istore 8, 2) := by decide +kernel
theorem dL_law_142 : decode cL_law 142 = .ok (.iload 6, 2) := by decide +kernel
theorem dL_law_144 : decode cL_law 144 = .ok (.bipush 7, 2) := by decide +kernel
theorem dL_law_146 : decode cL_law 146 = .ok (.iand, 1) := by decide +kernel
theorem dL_law_147 : decode cL_law 147 = .ok (.iconst 5, 1) := by decide +kernel
theorem dL_law_148 : decode cL_law 148 = .ok (.if_icmp .ge 15, 3) := by decide +kernel
theorem dL_law_151 : decode cL_law 151 = .ok (.aload_n 1, 1) := by decide +kernel
theorem dL_law_152 : decode cL_law 152 = .ok (.iload 7, 2) := by decide +kernel
theorem dL_law_154 : decode cL_law 154 = .ok (.iload 8, 2) := by decide +kernel
theorem dL_law_156 : decode cL_law 156 = .ok (.invokestatic 85, 3) := by decide +kernel
theorem dL_law_159 : decode cL_law 159 = .ok (.istore_n 3, 1) := by decide +kernel
theorem dL_law_160 : decode cL_law 160 = .ok (.goto 140, 3) := by decide +kernel
theorem dL_law_163 : decode cL_law 163 = .ok (.iload 6, 2) := by decide +kernel
theorem dL_law_165 : decode cL_law 165 = .ok (.bipush 7, 2) := by decide +kernel
theorem dL_law_167 : decode cL_law 167 = .ok (.iand, 1) := by decide +kernel
theorem dL_law_168 : decode cL_law 168 = .ok (.iconst 5, 1) := by decide +kernel
theorem dL_law_169 : decode cL_law 169 = .ok (.if_icmp .ne 55, 3) := by decide +kernel
theorem dL_law_172 : decode cL_law 172 = .ok (.aload_n 1, 1) := by decide +kernel
theorem dL_law_173 : decode cL_law 173 = .ok (.iconst 1, 1) := by decide +kernel
theorem dL_law_174 : decode cL_law 174 = .ok (.invokevirtual 36, 3) := by decide +kernel
theorem dL_law_177 : decode cL_law 177 = .ok (.lstore 9, 2) := by decide +kernel
theorem dL_law_179 : decode cL_law 179 = .ok (.aload_n 1, 1) := by decide +kernel
theorem dL_law_180 : decode cL_law 180 = .ok (.iconst 1, 1) := by decide +kernel
theorem dL_law_181 : decode cL_law 181 = .ok (.iload 8, 2) := by decide +kernel
theorem dL_law_183 : decode cL_law 183 = .ok (.iconst 3, 1) := by decide +kernel
theorem dL_law_184 : decode cL_law 184 = .ok (.irem, 1) := by decide +kernel
theorem dL_law_185 : decode cL_law 185 = .ok (.iadd, 1) := by decide +kernel
theorem dL_law_186 : decode cL_law 186 = .ok (.invokevirtual 89, 3) := by decide +kernel
theorem dL_law_189 : decode cL_law 189 = .ok (.istore 11, 2) := by decide +kernel
theorem dL_law_191 : decode cL_law 191 = .ok (.iload 11, 2) := by decide +kernel
theorem dL_law_193 : decode cL_law 193 = .ok (.i2l, 1) := by decide +kernel
theorem dL_law_194 : decode cL_law 194 = .ok (.lload 9, 2) := by decide +kernel
theorem dL_law_196 : decode cL_law 196 = .ok (.lcmp, 1) := by decide +kernel
theorem dL_law_197 : decode cL_law 197 = .ok (.ifCond .gt 22, 3) := by decide +kernel
theorem dL_law_200 : decode cL_law 200 = .ok (.aload_n 1, 1) := by decide +kernel
theorem dL_law_201 : decode cL_law 201 = .ok (.iconst 1, 1) := by decide +kernel
theorem dL_law_202 : decode cL_law 202 = .ok (.invokevirtual 36, 3) := by decide +kernel
theorem dL_law_205 : decode cL_law 205 = .ok (.lload 9, 2) := by decide +kernel
theorem dL_law_207 : decode cL_law 207 = .ok (.iload 11, 2) := by decide +kernel
theorem dL_law_209 : decode cL_law 209 = .ok (.i2l, 1) := by decide +kernel
theorem dL_law_210 : decode cL_law 210 = .ok (.lsub, 1) := by decide +kernel
theorem dL_law_211 : decode cL_law 211 = .ok (.lcmp, 1) := by decide +kernel
theorem dL_law_212 : decode cL_law 212 = .ok (.ifCond .ne 7, 3) := by decide +kernel
theorem dL_law_215 : decode cL_law 215 = .ok (.iconst 1, 1) := by decide +kernel
theorem dL_law_216 : decode cL_law 216 = .ok (.goto 4, 3) := by decide +kernel
theorem dL_law_219 : decode cL_law 219 = .ok (.iconst 0, 1) := by decide +kernel
theorem dL_law_220 : decode cL_law 220 = .ok (.istore_n 3, 1) := by decide +kernel
theorem dL_law_221 : decode cL_law 221 = .ok (.goto 79, 3) := by decide +kernel
theorem dL_law_224 : decode cL_law 224 = .ok (.aload_n 1, 1) := by decide +kernel
theorem dL_law_225 : decode cL_law 225 = .ok (.iconst 1, 1) := by decide +kernel
theorem dL_law_226 : decode cL_law 226 = .ok (.invokevirtual 36, 3) := by decide +kernel
theorem dL_law_229 : decode cL_law 229 = .ok (.aload_n 1, 1) := by decide +kernel
theorem dL_law_230 : decode cL_law 230 = .ok (.iconst 2, 1) := by decide +kernel
theorem dL_law_231 : decode cL_law 231 = .ok (.invokevirtual 36, 3) := by decide +kernel
theorem dL_law_234 : decode cL_law 234 = .ok (.ladd, 1) := by decide +kernel
theorem dL_law_235 : decode cL_law 235 = .ok (.lstore 9, 2) := by decide +kernel
theorem dL_law_237 : decode cL_law 237 = .ok (.aload_n 1, 1) := by decide +kernel
theorem dL_law_238 : decode cL_law 238 = .ok (.iload 7, 2) := by decide +kernel
theorem dL_law_240 : decode cL_law 240 = .ok (.iconst 0, 1) := by decide +kernel
theorem dL_law_241 : decode cL_law 241 = .ok (.invokevirtual 22, 3) := by decide +kernel
theorem dL_law_244 : decode cL_law 244 = .ok (.istore 11, 2) := by decide +kernel
theorem dL_law_246 : decode cL_law 246 = .ok (.aload_n 1, 1) := by decide +kernel
theorem dL_law_247 : decode cL_law 247 = .ok (.iload 7, 2) := by decide +kernel
theorem dL_law_249 : decode cL_law 249 = .ok (.iload 8, 2) := by decide +kernel
theorem dL_law_251 : decode cL_law 251 = .ok (.bipush 100, 2) := by decide +kernel
theorem dL_law_253 : decode cL_law 253 = .ok (.irem, 1) := by decide +kernel
theorem dL_law_254 : decode cL_law 254 = .ok (.invokevirtual 92, 3) := by decide +kernel
theorem dL_law_257 : decode cL_law 257 = .ok (.iload 11, 2) := by decide +kernel
theorem dL_law_259 : decode cL_law 259 = .ok (.if_icmp .ne 39, 3) := by decide +kernel
theorem dL_law_262 : decode cL_law 262 = .ok (.aload_n 1, 1) := by decide +kernel
theorem dL_law_263 : decode cL_law 263 = .ok (.iconst 1, 1) := by decide +kernel
theorem dL_law_264 : decode cL_law 264 = .ok (.invokevirtual 36, 3) := by decide +kernel
theorem dL_law_267 : decode cL_law 267 = .ok (.aload_n 1, 1) := by decide +kernel
theorem dL_law_268 : decode cL_law 268 = .ok (.iconst 2, 1) := by decide +kernel
theorem dL_law_269 : decode cL_law 269 = .ok (.invokevirtual 36, 3) := by decide +kernel
theorem dL_law_272 : decode cL_law 272 = .ok (.ladd, 1) := by decide +kernel
theorem dL_law_273 : decode cL_law 273 = .ok (.lload 9, 2) := by decide +kernel
theorem dL_law_275 : decode cL_law 275 = .ok (.lcmp, 1) := by decide +kernel
theorem dL_law_276 : decode cL_law 276 = .ok (.ifCond .ne 22, 3) := by decide +kernel
theorem dL_law_279 : decode cL_law 279 = .ok (.aload_n 1, 1) := by decide +kernel
theorem dL_law_280 : decode cL_law 280 = .ok (.iload 7, 2) := by decide +kernel
theorem dL_law_282 : decode cL_law 282 = .ok (.iconst 0, 1) := by decide +kernel
theorem dL_law_283 : decode cL_law 283 = .ok (.invokevirtual 22, 3) := by decide +kernel
theorem dL_law_286 : decode cL_law 286 = .ok (.iload 8, 2) := by decide +kernel
theorem dL_law_288 : decode cL_law 288 = .ok (.bipush 100, 2) := by decide +kernel
theorem dL_law_290 : decode cL_law 290 = .ok (.irem, 1) := by decide +kernel
theorem dL_law_291 : decode cL_law 291 = .ok (.if_icmp .ne 7, 3) := by decide +kernel
theorem dL_law_294 : decode cL_law 294 = .ok (.iconst 1, 1) := by decide +kernel
theorem dL_law_295 : decode cL_law 295 = .ok (.goto 4, 3) := by decide +kernel
theorem dL_law_298 : decode cL_law 298 = .ok (.iconst 0, 1) := by decide +kernel
theorem dL_law_299 : decode cL_law 299 = .ok (.istore_n 3, 1) := by decide +kernel
theorem dL_law_300 : decode cL_law 300 = .ok (.iload_n 3, 1) := by decide +kernel
theorem dL_law_301 : decode cL_law 301 = .ok (.ifCond .eq 14, 3) := by decide +kernel
theorem dL_law_304 : decode cL_law 304 = .ok (.aload_n 1, 1) := by decide +kernel
theorem dL_law_305 : decode cL_law 305 = .ok (.invokestatic 81, 3) := by decide +kernel
theorem dL_law_308 : decode cL_law 308 = .ok (.ifCond .eq 7, 3) := by decide +kernel
theorem dL_law_311 : decode cL_law 311 = .ok (.iconst 1, 1) := by decide +kernel
theorem dL_law_312 : decode cL_law 312 = .ok (.goto 4, 3) := by decide +kernel
theorem dL_law_315 : decode cL_law 315 = .ok (.iconst 0, 1) := by decide +kernel
theorem dL_law_316 : decode cL_law 316 = .ok (.istore_n 3, 1) := by decide +kernel
theorem dL_law_317 : decode cL_law 317 = .ok (.iinc 5 1, 3) := by decide +kernel
theorem dL_law_320 : decode cL_law 320 = .ok (.goto (-239), 3) := by decide +kernel
theorem dL_law_323 : decode cL_law 323 = .ok (.aload_n 1, 1) := by decide +kernel
theorem dL_law_324 : decode cL_law 324 = .ok (.invokevirtual 95, 3) := by decide +kernel
theorem dL_law_327 : decode cL_law 327 = .ok (.lstore 5, 2) := by decide +kernel
theorem dL_law_329 : decode cL_law 329 = .ok (.aload_n 1, 1) := by decide +kernel
theorem dL_law_330 : decode cL_law 330 = .ok (.iconst 4, 1) := by decide +kernel
theorem dL_law_331 : decode cL_law 331 = .ok (.invokevirtual 15, 3) := by decide +kernel
theorem dL_law_334 : decode cL_law 334 = .ok (.ifCond .le 7, 3) := by decide +kernel
theorem dL_law_337 : decode cL_law 337 = .ok (.iconst 1, 1) := by decide +kernel
theorem dL_law_338 : decode cL_law 338 = .ok (.goto 4, 3) := by decide +kernel
theorem dL_law_341 : decode cL_law 341 = .ok (.iconst 0, 1) := by decide +kernel
theorem dL_law_342 : decode cL_law 342 = .ok (.istore 7, 2) := by decide +kernel
theorem dL_law_344 : decode cL_law 344 = .ok (.iload_n 3, 1) := by decide +kernel
theorem dL_law_345 : decode cL_law 345 = .ok (.ifCond .eq 12, 3) := by decide +kernel
theorem dL_law_348 : decode cL_law 348 = .ok (.aload_n 1, 1) := by decide +kernel
theorem dL_law_349 : decode cL_law 349 = .ok (.bipush 100, 2) := by decide +kernel
theorem dL_law_351 : decode cL_law 351 = .ok (.invokevirtual 89, 3) := by decide +kernel
theorem dL_law_354 : decode cL_law 354 = .ok (.goto 4, 3) := by decide +kernel
theorem dL_law_357 : decode cL_law 357 = .ok (.iconst 0, 1) := by decide +kernel
theorem dL_law_358 : decode cL_law 358 = .ok (.istore 8, 2) := by decide +kernel
theorem dL_law_360 : decode cL_law 360 = .ok (.iload_n 3, 1) := by decide +kernel
theorem dL_law_361 : decode cL_law 361 = .ok (.ifCond .eq 42, 3) := by decide +kernel
theorem dL_law_364 : decode cL_law 364 = .ok (.iload 8, 2) := by decide +kernel
theorem dL_law_366 : decode cL_law 366 = .ok (.ifCond .le 7, 3) := by decide +kernel
theorem dL_law_369 : decode cL_law 369 = .ok (.iconst 1, 1) := by decide +kernel
theorem dL_law_370 : decode cL_law 370 = .ok (.goto 4, 3) := by decide +kernel
theorem dL_law_373 : decode cL_law 373 = .ok (.iconst 0, 1) := by decide +kernel
theorem dL_law_374 : decode cL_law 374 = .ok (.iload 7, 2) := by decide +kernel
theorem dL_law_376 : decode cL_law 376 = .ok (.if_icmp .ne 27, 3) := by decide +kernel
theorem dL_law_379 : decode cL_law 379 = .ok (.aload_n 1, 1) := by decide +kernel
theorem dL_law_380 : decode cL_law 380 = .ok (.invokevirtual 99, 3) := by decide +kernel
theorem dL_law_383 : decode cL_law 383 = .ok (.iconst 3, 1) := by decide +kernel
theorem dL_law_384 : decode cL_law 384 = .ok (.if_icmp .ne 19, 3) := by decide +kernel
theorem dL_law_387 : decode cL_law 387 = .ok (.aload_n 1, 1) := by decide +kernel
theorem dL_law_388 : decode cL_law 388 = .ok (.invokevirtual 95, 3) := by decide +kernel
theorem dL_law_391 : decode cL_law 391 = .ok (.lload 5, 2) := by decide +kernel
theorem dL_law_393 : decode cL_law 393 = .ok (.lconst 1, 1) := by decide +kernel
theorem dL_law_394 : decode cL_law 394 = .ok (.lsub, 1) := by decide +kernel
theorem dL_law_395 : decode cL_law 395 = .ok (.lcmp, 1) := by decide +kernel
theorem dL_law_396 : decode cL_law 396 = .ok (.ifCond .ne 7, 3) := by decide +kernel
theorem dL_law_399 : decode cL_law 399 = .ok (.iconst 1, 1) := by decide +kernel
theorem dL_law_400 : decode cL_law 400 = .ok (.goto 4, 3) := by decide +kernel
theorem dL_law_403 : decode cL_law 403 = .ok (.iconst 0, 1) := by decide +kernel
theorem dL_law_404 : decode cL_law 404 = .ok (.istore_n 3, 1) := by decide +kernel
theorem dL_law_405 : decode cL_law 405 = .ok (.aload_n 0, 1) := by decide +kernel
theorem dL_law_406 : decode cL_law 406 = .ok (.bipush 30, 2) := by decide +kernel
theorem dL_law_408 : decode cL_law 408 = .ok (.invokestatic 42, 3) := by decide +kernel
theorem dL_law_411 : decode cL_law 411 = .ok (.iload 4, 2) := by decide +kernel
theorem dL_law_413 : decode cL_law 413 = .ok (.invokestatic 45, 3) := by decide +kernel
theorem dL_law_416 : decode cL_law 416 = .ok (.istore 9, 2) := by decide +kernel
theorem dL_law_418 : decode cL_law 418 = .ok (.aload_n 0, 1) := by decide +kernel
theorem dL_law_419 : decode cL_law 419 = .ok (.bipush 31, 2) := by decide +kernel
theorem dL_law_421 : decode cL_law 421 = .ok (.invokestatic 42, 3) := by decide +kernel
theorem dL_law_424 : decode cL_law 424 = .ok (.iload 4, 2) := by decide +kernel
theorem dL_law_426 : decode cL_law 426 = .ok (.invokestatic 45, 3) := by decide +kernel
theorem dL_law_429 : decode cL_law 429 = .ok (.istore 10, 2) := by decide +kernel
theorem dL_law_431 : decode cL_law 431 = .ok (.iload_n 3, 1) := by decide +kernel
theorem dL_law_432 : decode cL_law 432 = .ok (.ifCond .eq 14, 3) := by decide +kernel
theorem dL_law_435 : decode cL_law 435 = .ok (.aload_n 1, 1) := by decide +kernel
theorem dL_law_436 : decode cL_law 436 = .ok (.iload 9, 2) := by decide +kernel
theorem dL_law_438 : decode cL_law 438 = .ok (.iload 10, 2) := by decide +kernel
theorem dL_law_440 : decode cL_law 440 = .ok (.invokevirtual 102, 3) := by decide +kernel
theorem dL_law_443 : decode cL_law 443 = .ok (.goto 4, 3) := by decide +kernel
theorem dL_law_446 : decode cL_law 446 = .ok (.iconst 0, 1) := by decide +kernel
theorem dL_law_447 : decode cL_law 447 = .ok (.istore 11, 2) := by decide +kernel
theorem dL_law_449 : decode cL_law 449 = .ok (.iload_n 3, 1) := by decide +kernel
theorem dL_law_450 : decode cL_law 450 = .ok (.ifCond .eq 28, 3) := by decide +kernel
theorem dL_law_453 : decode cL_law 453 = .ok (.aload_n 1, 1) := by decide +kernel
theorem dL_law_454 : decode cL_law 454 = .ok (.iload 9, 2) := by decide +kernel
theorem dL_law_456 : decode cL_law 456 = .ok (.aload_n 1, 1) := by decide +kernel
theorem dL_law_457 : decode cL_law 457 = .ok (.invokevirtual 39, 3) := by decide +kernel
theorem dL_law_460 : decode cL_law 460 = .ok (.ifCond .ge 8, 3) := by decide +kernel
theorem dL_law_463 : decode cL_law 463 = .ok (.iload 10, 2) := by decide +kernel
theorem dL_law_465 : decode cL_law 465 = .ok (.goto 7, 3) := by decide +kernel
theorem dL_law_468 : decode cL_law 468 = .ok (.aload_n 1, 1) := by decide +kernel
theorem dL_law_469 : decode cL_law 469 = .ok (.invokevirtual 39, 3) := by decide +kernel
theorem dL_law_472 : decode cL_law 472 = .ok (.invokevirtual 102, 3) := by decide +kernel
theorem dL_law_475 : decode cL_law 475 = .ok (.goto 4, 3) := by decide +kernel
theorem dL_law_478 : decode cL_law 478 = .ok (.iconst 0, 1) := by decide +kernel
theorem dL_law_479 : decode cL_law 479 = .ok (.istore 12, 2) := by decide +kernel
theorem dL_law_481 : decode cL_law 481 = .ok (.iload_n 3, 1) := by decide +kernel
theorem dL_law_482 : decode cL_law 482 = .ok (.ifCond .eq 42, 3) := by decide +kernel
theorem dL_law_485 : decode cL_law 485 = .ok (.aload_n 1, 1) := by decide +kernel
theorem dL_law_486 : decode cL_law 486 = .ok (.invokevirtual 39, 3) := by decide +kernel
theorem dL_law_489 : decode cL_law 489 = .ok (.ifCond .lt 8, 3) := by decide +kernel
theorem dL_law_492 : decode cL_law 492 = .ok (.iload 12, 2) := by decide +kernel
theorem dL_law_494 : decode cL_law 494 = .ok (.ifCond .ne 30, 3) := by decide +kernel
theorem dL_law_497 : decode cL_law 497 = .ok (.iload 11, 2) := by decide +kernel
theorem dL_law_499 : decode cL_law 499 = .ok (.ifCond .ne 14, 3) := by decide +kernel
theorem dL_law_502 : decode cL_law 502 = .ok (.aload_n 1, 1) := by decide +kernel
theorem dL_law_503 : decode cL_law 503 = .ok (.iload 10, 2) := by decide +kernel
theorem dL_law_505 : decode cL_law 505 = .ok (.iconst 4, 1) := by decide +kernel
theorem dL_law_506 : decode cL_law 506 = .ok (.invokevirtual 22, 3) := by decide +kernel
theorem dL_law_509 : decode cL_law 509 = .ok (.iconst 1, 1) := by decide +kernel
theorem dL_law_510 : decode cL_law 510 = .ok (.if_icmp .ne 14, 3) := by decide +kernel
theorem dL_law_513 : decode cL_law 513 = .ok (.iload 11, 2) := by decide +kernel
theorem dL_law_515 : decode cL_law 515 = .ok (.ldc 105, 2) := by decide +kernel
theorem dL_law_517 : decode cL_law 517 = .ok (.if_icmp .gt 7, 3) := by decide +kernel
theorem dL_law_520 : decode cL_law 520 = .ok (.iconst 1, 1) := by decide +kernel
theorem dL_law_521 : decode cL_law 521 = .ok (.goto 4, 3) := by decide +kernel
theorem dL_law_524 : decode cL_law 524 = .ok (.iconst 0, 1) := by decide +kernel
theorem dL_law_525 : decode cL_law 525 = .ok (.istore_n 3, 1) := by decide +kernel
theorem dL_law_526 : decode cL_law 526 = .ok (.iload_n 3, 1) := by decide +kernel
theorem dL_law_527 : decode cL_law 527 = .ok (.ifCond .eq 62, 3) := by decide +kernel
theorem dL_law_530 : decode cL_law 530 = .ok (.iload 11, 2) := by decide +kernel
theorem dL_law_532 : decode cL_law 532 = .ok (.iconst 1, 1) := by decide +kernel
theorem dL_law_533 : decode cL_law 533 = .ok (.if_icmp .lt 52, 3) := by decide +kernel
theorem dL_law_536 : decode cL_law 536 = .ok (.aload_n 1, 1) := by decide +kernel
theorem dL_law_537 : decode cL_law 537 = .ok (.iconst 1, 1) := by decide +kernel
theorem dL_law_538 : decode cL_law 538 = .ok (.invokevirtual 36, 3) := by decide +kernel
theorem dL_law_541 : decode cL_law 541 = .ok (.iload 11, 2) := by decide +kernel
theorem dL_law_543 : decode cL_law 543 = .ok (.i2l, 1) := by decide +kernel
theorem dL_law_544 : decode cL_law 544 = .ok (.ladd, 1) := by decide +kernel
theorem dL_law_545 : decode cL_law 545 = .ok (.ldc2_w 106, 3) := by decide +kernel
theorem dL_law_548 : decode cL_law 548 = .ok (.lcmp, 1) := by decide +kernel
theorem dL_law_549 : decode cL_law 549 = .ok (.ifCond .gt 36, 3) := by decide +kernel
theorem dL_law_552 : decode cL_law 552 = .ok (.aload_n 1, 1) := by decide +kernel
theorem dL_law_553 : decode cL_law 553 = .ok (.iload 9, 2) := by decide +kernel
theorem dL_law_555 : decode cL_law 555 = .ok (.iload 11, 2) := by decide +kernel
theorem dL_law_557 : decode cL_law 557 = .ok (.invokevirtual 63, 3) := by decide +kernel
theorem dL_law_560 : decode cL_law 560 = .ok (.ifCond .lt 29, 3) := by decide +kernel
theorem dL_law_563 : decode cL_law 563 = .ok (.aload_n 1, 1) := by decide +kernel
theorem dL_law_564 : decode cL_law 564 = .ok (.iload 10, 2) := by decide +kernel
theorem dL_law_566 : decode cL_law 566 = .ok (.iconst 4, 1) := by decide +kernel
theorem dL_law_567 : decode cL_law 567 = .ok (.invokevirtual 22, 3) := by decide +kernel
theorem dL_law_570 : decode cL_law 570 = .ok (.iconst 1, 1) := by decide +kernel
theorem dL_law_571 : decode cL_law 571 = .ok (.if_icmp .ne 18, 3) := by decide +kernel
theorem dL_law_574 : decode cL_law 574 = .ok (.aload_n 1, 1) := by decide +kernel
theorem dL_law_575 : decode cL_law 575 = .ok (.iload 9, 2) := by decide +kernel
theorem dL_law_577 : decode cL_law 577 = .ok (.iload 10, 2) := by decide +kernel
theorem dL_law_579 : decode cL_law 579 = .ok (.invokevirtual 102, 3) := by decide +kernel
theorem dL_law_582 : decode cL_law 582 = .ok (.ifCond .ne 7, 3) := by decide +kernel
theorem dL_law_585 : decode cL_law 585 = .ok (.iconst 1, 1) := by decide +kernel
theorem dL_law_586 : decode cL_law 586 = .ok (.goto 4, 3) := by decide +kernel
theorem dL_law_589 : decode cL_law 589 = .ok (.iconst 0, 1) := by decide +kernel
theorem dL_law_590 : decode cL_law 590 = .ok (.ireturn, 1) := by decide +kernel
