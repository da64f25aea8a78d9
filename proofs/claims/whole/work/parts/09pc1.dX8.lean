theorem dX8_join_124 : decode cX8_join 124 = .ok (.sipush 440, 3) := by decide +kernel
theorem dX8_join_127 : decode cX8_join 127 = .ok (.iload_n 1, 1) := by decide +kernel
theorem dX8_join_128 : decode cX8_join 128 = .ok (.iadd, 1) := by decide +kernel
theorem dX8_join_129 : decode cX8_join 129 = .ok (.lconst 0, 1) := by decide +kernel
theorem dX8_join_130 : decode cX8_join 130 = .ok (.lastore, 1) := by decide +kernel
theorem dX8_join_131 : decode cX8_join 131 = .ok (.aload_n 0, 1) := by decide +kernel
theorem dX8_join_132 : decode cX8_join 132 = .ok (.getfield 7, 3) := by decide +kernel
theorem dX8_join_135 : decode cX8_join 135 = .ok (.sipush 440, 3) := by decide +kernel
theorem dX8_join_138 : decode cX8_join 138 = .ok (.iload_n 2, 1) := by decide +kernel
theorem dX8_join_139 : decode cX8_join 139 = .ok (.iadd, 1) := by decide +kernel
theorem dX8_join_140 : decode cX8_join 140 = .ok (.lconst 0, 1) := by decide +kernel
theorem dX8_join_141 : decode cX8_join 141 = .ok (.lastore, 1) := by decide +kernel
theorem dX8_join_142 : decode cX8_join 142 = .ok (.iload_n 3, 1) := by decide +kernel
theorem dX8_join_143 : decode cX8_join 143 = .ok (.ireturn, 1) := by decide +kernel
theorem dX8_pours_0 : decode cX8_pours 0 = .ok (.aload_n 0, 1) := by decide +kernel
theorem dX8_pours_1 : decode cX8_pours 1 = .ok (.iload_n 1, 1) := by decide +kernel
theorem dX8_pours_2 : decode cX8_pours 2 = .ok (.invokevirtual 133, 3) := by decide +kernel
theorem dX8_pours_5 : decode cX8_pours 5 = .ok (.istore 4, 2) := by decide +kernel
theorem dX8_pours_7 : decode cX8_pours 7 = .ok (.lload_n 2, 1) := by decide +kernel
theorem dX8_pours_8 : decode cX8_pours 8 = .ok (.lstore 5, 2) := by decide +kernel
theorem dX8_pours_10 : decode cX8_pours 10 = .ok (.lload 5, 2) := by decide +kernel
theorem dX8_pours_12 : decode cX8_pours 12 = .ok (.lconst 0, 1) := by decide +kernel
theorem dX8_pours_13 : decode cX8_pours 13 = .ok (.lcmp, 1) := by decide +kernel
theorem dX8_pours_14 : decode cX8_pours 14 = .ok (.ifCond .le 180, 3) := by decide +kernel
theorem dX8_pours_17 : decode cX8_pours 17 = .ok (.iload 4, 2) := by decide +kernel
theorem dX8_pours_19 : decode cX8_pours 19 = .ok (.iconst (-1), 1) := by decide +kernel
theorem dX8_pours_20 : decode cX8_pours 20 = .ok (.if_icmp .ne 15, 3) := by decide +kernel
theorem dX8_pours_23 : decode cX8_pours 23 = .ok (.aload_n 0, 1) := by decide +kernel
theorem dX8_pours_24 : decode cX8_pours 24 = .ok (.getfield 7, 3) := by decide +kernel
theorem dX8_pours_27 : decode cX8_pours 27 = .ok (.iconst 3, 1) := by decide +kernel
theorem dX8_pours_28 : decode cX8_pours 28 = .ok (.dup2, 1) := by decide +kernel
theorem dX8_pours_29 : decode cX8_pours 29 = .ok (.laload, 1) := by decide +kernel
theorem dX8_pours_30 : decode cX8_pours 30 = .ok (.lload 5, 2) := by decide +kernel
theorem dX8_pours_32 : decode cX8_pours 32 = .ok (.ladd, 1) := by decide +kernel
theorem dX8_pours_33 : decode cX8_pours 33 = .ok (.lastore, 1) := by decide +kernel
theorem dX8_pours_34 : decode cX8_pours 34 = .ok (.return_, 1) := by decide +kernel
theorem dX8_pours_35 : decode cX8_pours 35 = .ok (.aload_n 0, 1) := by decide +kernel
theorem dX8_pours_36 : decode cX8_pours 36 = .ok (.iload 4, 2) := by decide +kernel
theorem dX8_pours_38 : decode cX8_pours 38 = .ok (.invokevirtual 127, 3) := by decide +kernel
theorem dX8_pours_41 : decode cX8_pours 41 = .ok (.lstore 7, 2) := by decide +kernel
theorem dX8_pours_43 : decode cX8_pours 43 = .ok (.aload_n 0, 1) := by decide +kernel
theorem dX8_pours_44 : decode cX8_pours 44 = .ok (.getfield 114, 3) := by decide +kernel
theorem dX8_pours_47 : decode cX8_pours 47 = .ok (.istore 9, 2) := by decide +kernel
theorem dX8_pours_49 : decode cX8_pours 49 = .ok (.aload_n 0, 1) := by decide +kernel
theorem dX8_pours_50 : decode cX8_pours 50 = .ok (.getfield 120, 3) := by decide +kernel
theorem dX8_pours_53 : decode cX8_pours 53 = .ok (.istore 10, 2) := by decide +kernel
theorem dX8_pours_55 : decode cX8_pours 55 = .ok (.lload 7, 2) := by decide +kernel
theorem dX8_pours_57 : decode cX8_pours 57 = .ok (.ldc2_w 109, 3) := by decide +kernel
theorem dX8_pours_60 : decode cX8_pours 60 = .ok (.lcmp, 1) := by decide +kernel
theorem dX8_pours_61 : decode cX8_pours 61 = .ok (.ifCond .ne 8, 3) := by decide +kernel
theorem dX8_pours_64 : decode cX8_pours 64 = .ok (.lload 5, 2) := by decide +kernel
theorem dX8_pours_66 : decode cX8_pours 66 = .ok (.goto 17, 3) := by decide +kernel
theorem dX8_pours_69 : decode cX8_pours 69 = .ok (.lload 7, 2) := by decide +kernel
theorem dX8_pours_71 : decode cX8_pours 71 = .ok (.aload_n 0, 1) := by decide +kernel
theorem dX8_pours_72 : decode cX8_pours 72 = .ok (.getfield 7, 3) := by decide +kernel
theorem dX8_pours_75 : decode cX8_pours 75 = .ok (.sipush 224, 3) := by decide +kernel
theorem dX8_pours_78 : decode cX8_pours 78 = .ok (.iload 4, 2) := by decide +kernel
theorem dX8_pours_80 : decode cX8_pours 80 = .ok (.iadd, 1) := by decide +kernel
theorem dX8_pours_81 : decode cX8_pours 81 = .ok (.laload, 1) := by decide +kernel
theorem dX8_pours_82 : decode cX8_pours 82 = .ok (.lsub, 1) := by decide +kernel
theorem dX8_pours_83 : decode cX8_pours 83 = .ok (.lstore 7, 2) := by decide +kernel
theorem dX8_pours_85 : decode cX8_pours 85 = .ok (.lload 5, 2) := by decide +kernel
theorem dX8_pours_87 : decode cX8_pours 87 = .ok (.lload 7, 2) := by decide +kernel
theorem dX8_pours_89 : decode cX8_pours 89 = .ok (.lcmp, 1) := by decide +kernel
theorem dX8_pours_90 : decode cX8_pours 90 = .ok (.ifCond .ge 8, 3) := by decide +kernel
theorem dX8_pours_93 : decode cX8_pours 93 = .ok (.lload 5, 2) := by decide +kernel
theorem dX8_pours_95 : decode cX8_pours 95 = .ok (.goto 5, 3) := by decide +kernel
theorem dX8_pours_98 : decode cX8_pours 98 = .ok (.lload 7, 2) := by decide +kernel
theorem dX8_pours_100 : decode cX8_pours 100 = .ok (.lstore 11, 2) := by decide +kernel
theorem dX8_pours_102 : decode cX8_pours 102 = .ok (.aload_n 0, 1) := by decide +kernel
theorem dX8_pours_103 : decode cX8_pours 103 = .ok (.getfield 7, 3) := by decide +kernel
theorem dX8_pours_106 : decode cX8_pours 106 = .ok (.sipush 224, 3) := by decide +kernel
theorem dX8_pours_109 : decode cX8_pours 109 = .ok (.iload 4, 2) := by decide +kernel
theorem dX8_pours_111 : decode cX8_pours 111 = .ok (.iadd, 1) := by decide +kernel
theorem dX8_pours_112 : decode cX8_pours 112 = .ok (.dup2, 1) := by decide +kernel
theorem dX8_pours_113 : decode cX8_pours 113 = .ok (.laload, 1) := by decide +kernel
theorem dX8_pours_114 : decode cX8_pours 114 = .ok (.lload 11, 2) := by decide +kernel
theorem dX8_pours_116 : decode cX8_pours 116 = .ok (.ladd, 1) := by decide +kernel
theorem dX8_pours_117 : decode cX8_pours 117 = .ok (.lastore, 1) := by decide +kernel
theorem dX8_pours_118 : decode cX8_pours 118 = .ok (.lload 5, 2) := by decide +kernel
theorem dX8_pours_120 : decode cX8_pours 120 = .ok (.lload 11, 2) := by decide +kernel
theorem dX8_pours_122 : decode cX8_pours 122 = .ok (.lsub, 1) := by decide +kernel
theorem dX8_pours_123 : decode cX8_pours 123 = .ok (.lstore 5, 2) := by decide +kernel
theorem dX8_pours_125 : decode cX8_pours 125 = .ok (.lload 5, 2) := by decide +kernel
theorem dX8_pours_127 : decode cX8_pours 127 = .ok (.lconst 0, 1) := by decide +kernel
theorem dX8_pours_128 : decode cX8_pours 128 = .ok (.lcmp, 1) := by decide +kernel
theorem dX8_pours_129 : decode cX8_pours 129 = .ok (.ifCond .le 62, 3) := by decide +kernel
theorem dX8_pours_132 : decode cX8_pours 132 = .ok (.aload_n 0, 1) := by decide +kernel
theorem dX8_pours_133 : decode cX8_pours 133 = .ok (.iload 10, 2) := by decide +kernel
theorem dX8_pours_135 : decode cX8_pours 135 = .ok (.invokevirtual 133, 3) := by decide +kernel
theorem dX8_pours_138 : decode cX8_pours 138 = .ok (.istore 13, 2) := by decide +kernel
theorem dX8_pours_140 : decode cX8_pours 140 = .ok (.iload 13, 2) := by decide +kernel
theorem dX8_pours_142 : decode cX8_pours 142 = .ok (.iconst (-1), 1) := by decide +kernel
theorem dX8_pours_143 : decode cX8_pours 143 = .ok (.if_icmp .eq 25, 3) := by decide +kernel
theorem dX8_pours_146 : decode cX8_pours 146 = .ok (.aload_n 0, 1) := by decide +kernel
theorem dX8_pours_147 : decode cX8_pours 147 = .ok (.iload 13, 2) := by decide +kernel
theorem dX8_pours_149 : decode cX8_pours 149 = .ok (.invokevirtual 136, 3) := by decide +kernel
theorem dX8_pours_152 : decode cX8_pours 152 = .ok (.ifCond .eq 16, 3) := by decide +kernel
theorem dX8_pours_155 : decode cX8_pours 155 = .ok (.aload_n 0, 1) := by decide +kernel
theorem dX8_pours_156 : decode cX8_pours 156 = .ok (.getfield 114, 3) := by decide +kernel
theorem dX8_pours_159 : decode cX8_pours 159 = .ok (.iload 9, 2) := by decide +kernel
theorem dX8_pours_161 : decode cX8_pours 161 = .ok (.if_icmp .ne 7, 3) := by decide +kernel
theorem dX8_pours_164 : decode cX8_pours 164 = .ok (.iconst 1, 1) := by decide +kernel
theorem dX8_pours_165 : decode cX8_pours 165 = .ok (.goto 4, 3) := by decide +kernel
theorem dX8_pours_168 : decode cX8_pours 168 = .ok (.iconst 0, 1) := by decide +kernel
theorem dX8_pours_169 : decode cX8_pours 169 = .ok (.istore 14, 2) := by decide +kernel
theorem dX8_pours_171 : decode cX8_pours 171 = .ok (.iload 14, 2) := by decide +kernel
theorem dX8_pours_173 : decode cX8_pours 173 = .ok (.ifCond .eq 14, 3) := by decide +kernel
theorem dX8_pours_176 : decode cX8_pours 176 = .ok (.aload_n 0, 1) := by decide +kernel
theorem dX8_pours_177 : decode cX8_pours 177 = .ok (.iload 4, 2) := by decide +kernel
theorem dX8_pours_179 : decode cX8_pours 179 = .ok (.iload 13, 2) := by decide +kernel
theorem dX8_pours_181 : decode cX8_pours 181 = .ok (.invokevirtual 139, 3) := by decide +kernel
theorem dX8_pours_184 : decode cX8_pours 184 = .ok (.goto 5, 3) := by decide +kernel
theorem dX8_pours_187 : decode cX8_pours 187 = .ok (.iload 13, 2) := by decide +kernel
theorem dX8_pours_189 : decode cX8_pours 189 = .ok (.istore 4, 2) := by decide +kernel
theorem dX8_pours_191 : decode cX8_pours 191 = .ok (.goto (-181), 3) := by decide +kernel
theorem dX8_pours_194 : decode cX8_pours 194 = .ok (.return_, 1) := by decide +kernel
theorem dX8_takes_0 : decode cX8_takes 0 = .ok (.iconst 1, 1) := by decide +kernel
theorem dX8_takes_1 : decode cX8_takes 1 = .ok (.istore 4, 2) := by decide +kernel
theorem dX8_takes_3 : decode cX8_takes 3 = .ok (.aload_n 0, 1) := by decide +kernel
theorem dX8_takes_4 : decode cX8_takes 4 = .ok (.getfield 22, 3) := by decide +kernel
theorem dX8_takes_7 : decode cX8_takes 7 = .ok (.iconst 0, 1) := by decide +kernel
theorem dX8_takes_8 : decode cX8_takes 8 = .ok (.iload_n 1, 1) := by decide +kernel
theorem dX8_takes_9 : decode cX8_takes 9 = .ok (.iastore, 1) := by decide +kernel
theorem dX8_takes_10 : decode cX8_takes 10 = .ok (.aload_n 0, 1) := by decide +kernel
theorem dX8_takes_11 : decode cX8_takes 11 = .ok (.getfield 26, 3) := by decide +kernel
theorem dX8_takes_14 : decode cX8_takes 14 = .ok (.iconst 0, 1) := by decide +kernel
theorem dX8_takes_15 : decode cX8_takes 15 = .ok (.lload_n 2, 1) := by decide +kernel
theorem dX8_takes_16 : decode cX8_takes 16 = .ok (.lastore, 1) := by decide +kernel
theorem dX8_takes_17 : decode cX8_takes 17 = .ok (.iload 4, 2) := by decide +kernel
theorem dX8_takes_19 : decode cX8_takes 19 = .ok (.ifCond .le 258, 3) := by decide +kernel
theorem dX8_takes_22 : decode cX8_takes 22 = .ok (.iinc 4 (-1), 3) := by decide +kernel
theorem dX8_takes_25 : decode cX8_takes 25 = .ok (.aload_n 0, 1) := by decide +kernel
theorem dX8_takes_26 : decode cX8_takes 26 = .ok (.getfield 22, 3) := by decide +kernel
theorem dX8_takes_29 : decode cX8_takes 29 = .ok (.iload 4, 2) := by decide +kernel
theorem dX8_takes_31 : decode cX8_takes 31 = .ok (.iaload, 1) := by decide +kernel
theorem dX8_takes_32 : decode cX8_takes 32 = .ok (.istore 5, 2) := by decide +kernel
theorem dX8_takes_34 : decode cX8_takes 34 = .ok (.aload_n 0, 1) := by decide +kernel
theorem dX8_takes_35 : decode cX8_takes 35 = .ok (.getfield 26, 3) := by decide +kernel
theorem dX8_takes_38 : decode cX8_takes 38 = .ok (.iload 4, 2) := by decide +kernel
theorem dX8_takes_40 : decode cX8_takes 40 = .ok (.laload, 1) := by decide +kernel
theorem dX8_takes_41 : decode cX8_takes 41 = .ok (.lstore 6, 2) := by decide +kernel
theorem dX8_takes_43 : decode cX8_takes 43 = .ok (.aload_n 0, 1) := by decide +kernel
theorem dX8_takes_44 : decode cX8_takes 44 = .ok (.iload 5, 2) := by decide +kernel
theorem dX8_takes_46 : decode cX8_takes 46 = .ok (.invokevirtual 142, 3) := by decide +kernel
theorem dX8_takes_49 : decode cX8_takes 49 = .ok (.lstore 8, 2) := by decide +kernel
theorem dX8_takes_51 : decode cX8_takes 51 = .ok (.aload_n 0, 1) := by decide +kernel
theorem dX8_takes_52 : decode cX8_takes 52 = .ok (.getfield 7, 3) := by decide +kernel
theorem dX8_takes_55 : decode cX8_takes 55 = .ok (.sipush 224, 3) := by decide +kernel
theorem dX8_takes_58 : decode cX8_takes 58 = .ok (.iload 5, 2) := by decide +kernel
theorem dX8_takes_60 : decode cX8_takes 60 = .ok (.iadd, 1) := by decide +kernel
theorem dX8_takes_61 : decode cX8_takes 61 = .ok (.laload, 1) := by decide +kernel
theorem dX8_takes_62 : decode cX8_takes 62 = .ok (.lload 6, 2) := by decide +kernel
theorem dX8_takes_64 : decode cX8_takes 64 = .ok (.lsub, 1) := by decide +kernel
theorem dX8_takes_65 : decode cX8_takes 65 = .ok (.lload 8, 2) := by decide +kernel
theorem dX8_takes_67 : decode cX8_takes 67 = .ok (.lcmp, 1) := by decide +kernel
theorem dX8_takes_68 : decode cX8_takes 68 = .ok (.ifCond .lt 22, 3) := by decide +kernel
theorem dX8_takes_71 : decode cX8_takes 71 = .ok (.aload_n 0, 1) := by decide +kernel
theorem dX8_takes_72 : decode cX8_takes 72 = .ok (.getfield 7, 3) := by decide +kernel
theorem dX8_takes_75 : decode cX8_takes 75 = .ok (.sipush 224, 3) := by decide +kernel
theorem dX8_takes_78 : decode cX8_takes 78 = .ok (.iload 5, 2) := by decide +kernel
theorem dX8_takes_80 : decode cX8_takes 80 = .ok (.iadd, 1) := by decide +kernel
theorem dX8_takes_81 : decode cX8_takes 81 = .ok (.dup2, 1) := by decide +kernel
theorem dX8_takes_82 : decode cX8_takes 82 = .ok (.laload, 1) := by decide +kernel
theorem dX8_takes_83 : decode cX8_takes 83 = .ok (.lload 6, 2) := by decide +kernel
theorem dX8_takes_85 : decode cX8_takes 85 = .ok (.lsub, 1) := by decide +kernel
theorem dX8_takes_86 : decode cX8_takes 86 = .ok (.lastore, 1) := by decide +kernel
theorem dX8_takes_87 : decode cX8_takes 87 = .ok (.goto 187, 3) := by decide +kernel
theorem dX8_takes_90 : decode cX8_takes 90 = .ok (.lload 6, 2) := by decide +kernel
theorem dX8_takes_92 : decode cX8_takes 92 = .ok (.aload_n 0, 1) := by decide +kernel
theorem dX8_takes_93 : decode cX8_takes 93 = .ok (.getfield 7, 3) := by decide +kernel
theorem dX8_takes_96 : decode cX8_takes 96 = .ok (.sipush 224, 3) := by decide +kernel
theorem dX8_takes_99 : decode cX8_takes 99 = .ok (.iload 5, 2) := by decide +kernel
theorem dX8_takes_101 : decode cX8_takes 101 = .ok (.iadd, 1) := by decide +kernel
theorem dX8_takes_102 : decode cX8_takes 102 = .ok (.laload, 1) := by decide +kernel
theorem dX8_takes_103 : decode cX8_takes 103 = .ok (.lload 8, 2) := by decide +kernel
theorem dX8_takes_105 : decode cX8_takes 105 = .ok (.lsub, 1) := by decide +kernel
theorem dX8_takes_106 : decode cX8_takes 106 = .ok (.lsub, 1) := by decide +kernel
theorem dX8_takes_107 : decode cX8_takes 107 = .ok (.lstore 10, 2) := by decide +kernel
theorem dX8_takes_109 : decode cX8_takes 109 = .ok (.aload_n 0, 1) := by decide +kernel
theorem dX8_takes_110 : decode cX8_takes 110 = .ok (.getfield 7, 3) := by decide +kernel
theorem dX8_takes_113 : decode cX8_takes 113 = .ok (.sipush 296, 3) := by decide +kernel
theorem dX8_takes_116 : decode cX8_takes 116 = .ok (.iload 5, 2) := by decide +kernel
theorem dX8_takes_118 : decode cX8_takes 118 = .ok (.iadd, 1) := by decide +kernel
theorem dX8_takes_119 : decode cX8_takes 119 = .ok (.laload, 1) := by decide +kernel
theorem dX8_takes_120 : decode cX8_takes 120 = .ok (.l2i, 1) := by decide +kernel
theorem dX8_takes_121 : decode cX8_takes 121 = .ok (.istore 12, 2) := by decide +kernel
theorem dX8_takes_123 : decode cX8_takes 123 = .ok (.aload_n 0, 1) := by decide +kernel
theorem dX8_takes_124 : decode cX8_takes 124 = .ok (.getfield 7, 3) := by decide +kernel
theorem dX8_takes_127 : decode cX8_takes 127 = .ok (.sipush 368, 3) := by decide +kernel
theorem dX8_takes_130 : decode cX8_takes 130 = .ok (.iload 5, 2) := by decide +kernel
theorem dX8_takes_132 : decode cX8_takes 132 = .ok (.iadd, 1) := by decide +kernel
theorem dX8_takes_133 : decode cX8_takes 133 = .ok (.laload, 1) := by decide +kernel
theorem dX8_takes_134 : decode cX8_takes 134 = .ok (.l2i, 1) := by decide +kernel
theorem dX8_takes_135 : decode cX8_takes 135 = .ok (.istore 13, 2) := by decide +kernel
theorem dX8_takes_137 : decode cX8_takes 137 = .ok (.aload_n 0, 1) := by decide +kernel
theorem dX8_takes_138 : decode cX8_takes 138 = .ok (.iload 5, 2) := by decide +kernel
theorem dX8_takes_140 : decode cX8_takes 140 = .ok (.iload 12, 2) := by decide +kernel
theorem dX8_takes_142 : decode cX8_takes 142 = .ok (.iload 13, 2) := by decide +kernel
theorem dX8_takes_144 : decode cX8_takes 144 = .ok (.invokevirtual 145, 3) := by decide +kernel
theorem dX8_takes_147 : decode cX8_takes 147 = .ok (.aload_n 0, 1) := by decide +kernel
theorem dX8_takes_148 : decode cX8_takes 148 = .ok (.getfield 7, 3) := by decide +kernel
theorem dX8_takes_151 : decode cX8_takes 151 = .ok (.sipush 152, 3) := by decide +kernel
theorem dX8_takes_154 : decode cX8_takes 154 = .ok (.iload 12, 2) := by decide +kernel
theorem dX8_takes_156 : decode cX8_takes 156 = .ok (.iadd, 1) := by decide +kernel
theorem dX8_takes_157 : decode cX8_takes 157 = .ok (.laload, 1) := by decide +kernel
theorem dX8_takes_158 : decode cX8_takes 158 = .ok (.invokestatic 111, 3) := by decide +kernel
theorem dX8_takes_161 : decode cX8_takes 161 = .ok (.aload_n 0, 1) := by decide +kernel
theorem dX8_takes_162 : decode cX8_takes 162 = .ok (.getfield 7, 3) := by decide +kernel
theorem dX8_takes_165 : decode cX8_takes 165 = .ok (.sipush 152, 3) := by decide +kernel
theorem dX8_takes_168 : decode cX8_takes 168 = .ok (.iload 13, 2) := by decide +kernel
theorem dX8_takes_170 : decode cX8_takes 170 = .ok (.iadd, 1) := by decide +kernel
theorem dX8_takes_171 : decode cX8_takes 171 = .ok (.laload, 1) := by decide +kernel
theorem dX8_takes_172 : decode cX8_takes 172 = .ok (.invokestatic 111, 3) := by decide +kernel
theorem dX8_takes_175 : decode cX8_takes 175 = .ok (.if_icmp .ge 8, 3) := by decide +kernel
theorem dX8_takes_178 : decode cX8_takes 178 = .ok (.iload 12, 2) := by decide +kernel
theorem dX8_takes_180 : decode cX8_takes 180 = .ok (.goto 5, 3) := by decide +kernel
theorem dX8_takes_183 : decode cX8_takes 183 = .ok (.iload 13, 2) := by decide +kernel
theorem dX8_takes_185 : decode cX8_takes 185 = .ok (.istore 14, 2) := by decide +kernel
theorem dX8_takes_187 : decode cX8_takes 187 = .ok (.lload 10, 2) := by decide +kernel
theorem dX8_takes_189 : decode cX8_takes 189 = .ok (.aload_n 0, 1) := by decide +kernel
theorem dX8_takes_190 : decode cX8_takes 190 = .ok (.getfield 7, 3) := by decide +kernel
theorem dX8_takes_193 : decode cX8_takes 193 = .ok (.sipush 224, 3) := by decide +kernel
theorem dX8_takes_196 : decode cX8_takes 196 = .ok (.iload 14, 2) := by decide +kernel
theorem dX8_takes_198 : decode cX8_takes 198 = .ok (.iadd, 1) := by decide +kernel
theorem dX8_takes_199 : decode cX8_takes 199 = .ok (.laload, 1) := by decide +kernel
theorem dX8_takes_200 : decode cX8_takes 200 = .ok (.lcmp, 1) := by decide +kernel
theorem dX8_takes_201 : decode cX8_takes 201 = .ok (.ifCond .ge 8, 3) := by decide +kernel
theorem dX8_takes_204 : decode cX8_takes 204 = .ok (.lload 10, 2) := by decide +kernel
theorem dX8_takes_206 : decode cX8_takes 206 = .ok (.goto 14, 3) := by decide +kernel
theorem dX8_takes_209 : decode cX8_takes 209 = .ok (.aload_n 0, 1) := by decide +kernel
theorem dX8_takes_210 : decode cX8_takes 210 = .ok (.getfield 7, 3) := by decide +kernel
theorem dX8_takes_213 : decode cX8_takes 213 = .ok (.sipush 224, 3) := by decide +kernel
theorem dX8_takes_216 : decode cX8_takes 216 = .ok (.iload 14, 2) := by decide +kernel
theorem dX8_takes_218 : decode cX8_takes 218 = .ok (.iadd, 1) := by decide +kernel
theorem dX8_takes_219 : decode cX8_takes 219 = .ok (.laload, 1) := by decide +kernel
theorem dX8_takes_220 : decode cX8_takes 220 = .ok (.lstore 15, 2) := by decide +kernel
theorem dX8_takes_222 : decode cX8_takes 222 = .ok (.aload_n 0, 1) := by decide +kernel
theorem dX8_takes_223 : decode cX8_takes 223 = .ok (.getfield 22, 3) := by decide +kernel
theorem dX8_takes_226 : decode cX8_takes 226 = .ok (.iload 4, 2) := by decide +kernel
theorem dX8_takes_228 : decode cX8_takes 228 = .ok (.iload 12, 2) := by decide +kernel
theorem dX8_takes_230 : decode cX8_takes 230 = .ok (.iload 13, 2) := by decide +kernel
theorem dX8_takes_232 : decode cX8_takes 232 = .ok (.iadd, 1) := by decide +kernel
theorem dX8_takes_233 : decode cX8_takes 233 = .ok (.iload 14, 2) := by decide +kernel
theorem dX8_takes_235 : decode cX8_takes 235 = .ok (.isub, 1) := by decide +kernel
theorem dX8_takes_236 : decode cX8_takes 236 = .ok (.iastore, 1) := by decide +kernel
theorem dX8_takes_237 : decode cX8_takes 237 = .ok (.aload_n 0, 1) := by decide +kernel
theorem dX8_takes_238 : decode cX8_takes 238 = .ok (.getfield 26, 3) := by decide +kernel
theorem dX8_takes_241 : decode cX8_takes 241 = .ok (.iload 4, 2) := by decide +kernel
theorem dX8_takes_243 : decode cX8_takes 243 = .ok (.lload 10, 2) := by decide +kernel
theorem dX8_takes_245 : decode cX8_takes 245 = .ok (.lload 15, 2) := by decide +kernel
theorem dX8_takes_247 : decode cX8_takes 247 = .ok (.lsub, 1) := by decide +kernel
theorem dX8_takes_248 : decode cX8_takes 248 = .ok (.lastore, 1) := by decide +kernel
theorem dX8_takes_249 : decode cX8_takes 249 = .ok (.aload_n 0, 1) := by decide +kernel
theorem dX8_takes_250 : decode cX8_takes 250 = .ok (.getfield 22, 3) := by decide +kernel
theorem dX8_takes_253 : decode cX8_takes 253 = .ok (.iload 4, 2) := by decide +kernel
theorem dX8_takes_255 : decode cX8_takes 255 = .ok (.iconst 1, 1) := by decide +kernel
theorem dX8_takes_256 : decode cX8_takes 256 = .ok (.iadd, 1) := by decide +kernel
theorem dX8_takes_257 : decode cX8_takes 257 = .ok (.iload 14, 2) := by decide +kernel
theorem dX8_takes_259 : decode cX8_takes 259 = .ok (.iastore, 1) := by decide +kernel
theorem dX8_takes_260 : decode cX8_takes 260 = .ok (.aload_n 0, 1) := by decide +kernel
theorem dX8_takes_261 : decode cX8_takes 261 = .ok (.getfield 26, 3) := by decide +kernel
theorem dX8_takes_264 : decode cX8_takes 264 = .ok (.iload 4, 2) := by decide +kernel
theorem dX8_takes_266 : decode cX8_takes 266 = .ok (.iconst 1, 1) := by decide +kernel
theorem dX8_takes_267 : decode cX8_takes 267 = .ok (.iadd, 1) := by decide +kernel
theorem dX8_takes_268 : decode cX8_takes 268 = .ok (.lload 15, 2) := by decide +kernel
theorem dX8_takes_270 : decode cX8_takes 270 = .ok (.lastore, 1) := by decide +kernel
theorem dX8_takes_271 : decode cX8_takes 271 = .ok (.iinc 4 2, 3) := by decide +kernel
theorem dX8_takes_274 : decode cX8_takes 274 = .ok (.goto (-257), 3) := by decide +kernel
theorem dX8_takes_277 : decode cX8_takes 277 = .ok (.aload_n 0, 1) := by decide +kernel
theorem dX8_takes_278 : decode cX8_takes 278 = .ok (.getfield 7, 3) := by decide +kernel
theorem dX8_takes_281 : decode cX8_takes 281 = .ok (.iconst 4, 1) := by decide +kernel
theorem dX8_takes_282 : decode cX8_takes 282 = .ok (.dup2, 1) := by decide +kernel
theorem dX8_takes_283 : decode cX8_takes 283 = .ok (.laload, 1) := by decide +kernel
theorem dX8_takes_284 : decode cX8_takes 284 = .ok (.lload_n 2, 1) := by decide +kernel
theorem dX8_takes_285 : decode cX8_takes 285 = .ok (.ladd, 1) := by decide +kernel
theorem dX8_takes_286 : decode cX8_takes 286 = .ok (.lastore, 1) := by decide +kernel
theorem dX8_takes_287 : decode cX8_takes 287 = .ok (.return_, 1) := by decide +kernel
theorem dX8_parts_0 : decode cX8_parts 0 = .ok (.aload_n 0, 1) := by decide +kernel
theorem dX8_parts_1 : decode cX8_parts 1 = .ok (.getfield 7, 3) := by decide +kernel
theorem dX8_parts_4 : decode cX8_parts 4 = .ok (.sipush 152, 3) := by decide +kernel
theorem dX8_parts_7 : decode cX8_parts 7 = .ok (.iload_n 1, 1) := by decide +kernel
theorem dX8_parts_8 : decode cX8_parts 8 = .ok (.iadd, 1) := by decide +kernel
theorem dX8_parts_9 : decode cX8_parts 9 = .ok (.lconst 0, 1) := by decide +kernel
theorem dX8_parts_10 : decode cX8_parts 10 = .ok (.lastore, 1) := by decide +kernel
theorem dX8_parts_11 : decode cX8_parts 11 = .ok (.aload_n 0, 1) := by decide +kernel
theorem dX8_parts_12 : decode cX8_parts 12 = .ok (.getfield 7, 3) := by decide +kernel
theorem dX8_parts_15 : decode cX8_parts 15 = .ok (.sipush 224, 3) := by decide +kernel
theorem dX8_parts_18 : decode cX8_parts 18 = .ok (.iload_n 1, 1) := by decide +kernel
theorem dX8_parts_19 : decode cX8_parts 19 = .ok (.iadd, 1) := by decide +kernel
theorem dX8_parts_20 : decode cX8_parts 20 = .ok (.lconst 0, 1) := by decide +kernel
theorem dX8_parts_21 : decode cX8_parts 21 = .ok (.lastore, 1) := by decide +kernel
theorem dX8_parts_22 : decode cX8_parts 22 = .ok (.aload_n 0, 1) := by decide +kernel
theorem dX8_parts_23 : decode cX8_parts 23 = .ok (.getfield 7, 3) := by decide +kernel
theorem dX8_parts_26 : decode cX8_parts 26 = .ok (.sipush 296, 3) := by decide +kernel
theorem dX8_parts_29 : decode cX8_parts 29 = .ok (.iload_n 1, 1) := by decide +kernel
theorem dX8_parts_30 : decode cX8_parts 30 = .ok (.iadd, 1) := by decide +kernel
theorem dX8_parts_31 : decode cX8_parts 31 = .ok (.lconst 0, 1) := by decide +kernel
theorem dX8_parts_32 : decode cX8_parts 32 = .ok (.lastore, 1) := by decide +kernel
theorem dX8_parts_33 : decode cX8_parts 33 = .ok (.aload_n 0, 1) := by decide +kernel
theorem dX8_parts_34 : decode cX8_parts 34 = .ok (.getfield 7, 3) := by decide +kernel
theorem dX8_parts_37 : decode cX8_parts 37 = .ok (.sipush 368, 3) := by decide +kernel
theorem dX8_parts_40 : decode cX8_parts 40 = .ok (.iload_n 1, 1) := by decide +kernel
theorem dX8_parts_41 : decode cX8_parts 41 = .ok (.iadd, 1) := by decide +kernel
theorem dX8_parts_42 : decode cX8_parts 42 = .ok (.lconst 0, 1) := by decide +kernel
theorem dX8_parts_43 : decode cX8_parts 43 = .ok (.lastore, 1) := by decide +kernel
theorem dX8_parts_44 : decode cX8_parts 44 = .ok (.aload_n 0, 1) := by decide +kernel
theorem dX8_parts_45 : decode cX8_parts 45 = .ok (.getfield 7, 3) := by decide +kernel
theorem dX8_parts_48 : decode cX8_parts 48 = .ok (.sipush 440, 3) := by decide +kernel
theorem dX8_parts_51 : decode cX8_parts 51 = .ok (.iload_n 1, 1) := by decide +kernel
theorem dX8_parts_52 : decode cX8_parts 52 = .ok (.iadd, 1) := by decide +kernel
theorem dX8_parts_53 : decode cX8_parts 53 = .ok (.lconst 0, 1) := by decide +kernel
theorem dX8_parts_54 : decode cX8_parts 54 = .ok (.lastore, 1) := by decide +kernel
theorem dX8_parts_55 : decode cX8_parts 55 = .ok (.aload_n 0, 1) := by decide +kernel
theorem dX8_parts_56 : decode cX8_parts 56 = .ok (.getfield 7, 3) := by decide +kernel
theorem dX8_parts_59 : decode cX8_parts 59 = .ok (.sipush 224, 3) := by decide +kernel
theorem dX8_parts_62 : decode cX8_parts 62 = .ok (.iload_n 2, 1) := by decide +kernel
theorem dX8_parts_63 : decode cX8_parts 63 = .ok (.iadd, 1) := by decide +kernel
theorem dX8_parts_64 : decode cX8_parts 64 = .ok (.aload_n 0, 1) := by decide +kernel
theorem dX8_parts_65 : decode cX8_parts 65 = .ok (.iload_n 2, 1) := by decide +kernel
theorem dX8_parts_66 : decode cX8_parts 66 = .ok (.invokevirtual 127, 3) := by decide +kernel
theorem dX8_parts_69 : decode cX8_parts 69 = .ok (.lastore, 1) := by decide +kernel
theorem dX8_parts_70 : decode cX8_parts 70 = .ok (.aload_n 0, 1) := by decide +kernel
theorem dX8_parts_71 : decode cX8_parts 71 = .ok (.getfield 7, 3) := by decide +kernel
theorem dX8_parts_74 : decode cX8_parts 74 = .ok (.sipush 224, 3) := by decide +kernel
theorem dX8_parts_77 : decode cX8_parts 77 = .ok (.iload_n 3, 1) := by decide +kernel
theorem dX8_parts_78 : decode cX8_parts 78 = .ok (.iadd, 1) := by decide +kernel
theorem dX8_parts_79 : decode cX8_parts 79 = .ok (.aload_n 0, 1) := by decide +kernel
theorem dX8_parts_80 : decode cX8_parts 80 = .ok (.iload_n 3, 1) := by decide +kernel
theorem dX8_parts_81 : decode cX8_parts 81 = .ok (.invokevirtual 127, 3) := by decide +kernel
theorem dX8_parts_84 : decode cX8_parts 84 = .ok (.lastore, 1) := by decide +kernel
theorem dX8_parts_85 : decode cX8_parts 85 = .ok (.aload_n 0, 1) := by decide +kernel
theorem dX8_parts_86 : decode cX8_parts 86 = .ok (.getfield 7, 3) := by decide +kernel
theorem dX8_parts_89 : decode cX8_parts 89 = .ok (.sipush 440, 3) := by decide +kernel
theorem dX8_parts_92 : decode cX8_parts 92 = .ok (.iload_n 2, 1) := by decide +kernel
theorem dX8_parts_93 : decode cX8_parts 93 = .ok (.iadd, 1) := by decide +kernel
theorem dX8_parts_94 : decode cX8_parts 94 = .ok (.lconst 1, 1) := by decide +kernel
theorem dX8_parts_95 : decode cX8_parts 95 = .ok (.lastore, 1) := by decide +kernel
theorem dX8_parts_96 : decode cX8_parts 96 = .ok (.aload_n 0, 1) := by decide +kernel
theorem dX8_parts_97 : decode cX8_parts 97 = .ok (.getfield 7, 3) := by decide +kernel
theorem dX8_parts_100 : decode cX8_parts 100 = .ok (.sipush 440, 3) := by decide +kernel
theorem dX8_parts_103 : decode cX8_parts 103 = .ok (.iload_n 3, 1) := by decide +kernel
theorem dX8_parts_104 : decode cX8_parts 104 = .ok (.iadd, 1) := by decide +kernel
theorem dX8_parts_105 : decode cX8_parts 105 = .ok (.lconst 1, 1) := by decide +kernel
theorem dX8_parts_106 : decode cX8_parts 106 = .ok (.lastore, 1) := by decide +kernel
theorem dX8_parts_107 : decode cX8_parts 107 = .ok (.return_, 1) := by decide +kernel
theorem dX8_orders_0 : decode cX8_orders 0 = .ok (.aload_n 0, 1) := by decide +kernel
theorem dX8_orders_1 : decode cX8_orders 1 = .ok (.iconst 0, 1) := by decide +kernel
theorem dX8_orders_2 : decode cX8_orders 2 = .ok (.putfield 149, 3) := by decide +kernel
theorem dX8_orders_5 : decode cX8_orders 5 = .ok (.iconst 0, 1) := by decide +kernel
theorem dX8_orders_6 : decode cX8_orders 6 = .ok (.istore_n 1, 1) := by decide +kernel
theorem dX8_orders_7 : decode cX8_orders 7 = .ok (.iload_n 1, 1) := by decide +kernel
theorem dX8_orders_8 : decode cX8_orders 8 = .ok (.aload_n 0, 1) := by decide +kernel
theorem dX8_orders_9 : decode cX8_orders 9 = .ok (.invokevirtual 61, 3) := by decide +kernel
theorem dX8_orders_12 : decode cX8_orders 12 = .ok (.if_icmp .ge 57, 3) := by decide +kernel
theorem dX8_orders_15 : decode cX8_orders 15 = .ok (.aload_n 0, 1) := by decide +kernel
theorem dX8_orders_16 : decode cX8_orders 16 = .ok (.iload_n 1, 1) := by decide +kernel
theorem dX8_orders_17 : decode cX8_orders 17 = .ok (.invokevirtual 133, 3) := by decide +kernel
theorem dX8_orders_20 : decode cX8_orders 20 = .ok (.istore_n 2, 1) := by decide +kernel
theorem dX8_orders_21 : decode cX8_orders 21 = .ok (.iload_n 2, 1) := by decide +kernel
theorem dX8_orders_22 : decode cX8_orders 22 = .ok (.iconst (-1), 1) := by decide +kernel
theorem dX8_orders_23 : decode cX8_orders 23 = .ok (.if_icmp .eq 40, 3) := by decide +kernel
theorem dX8_orders_26 : decode cX8_orders 26 = .ok (.aload_n 0, 1) := by decide +kernel
theorem dX8_orders_27 : decode cX8_orders 27 = .ok (.getfield 7, 3) := by decide +kernel
theorem dX8_orders_30 : decode cX8_orders 30 = .ok (.sipush 152, 3) := by decide +kernel
theorem dX8_orders_33 : decode cX8_orders 33 = .ok (.iload_n 2, 1) := by decide +kernel
theorem dX8_orders_34 : decode cX8_orders 34 = .ok (.iadd, 1) := by decide +kernel
theorem dX8_orders_35 : decode cX8_orders 35 = .ok (.laload, 1) := by decide +kernel
theorem dX8_orders_36 : decode cX8_orders 36 = .ok (.invokestatic 111, 3) := by decide +kernel
theorem dX8_orders_39 : decode cX8_orders 39 = .ok (.iload_n 1, 1) := by decide +kernel
theorem dX8_orders_40 : decode cX8_orders 40 = .ok (.if_icmp .ne 23, 3) := by decide +kernel
theorem dX8_orders_43 : decode cX8_orders 43 = .ok (.aload_n 0, 1) := by decide +kernel
theorem dX8_orders_44 : decode cX8_orders 44 = .ok (.getfield 29, 3) := by decide +kernel
theorem dX8_orders_47 : decode cX8_orders 47 = .ok (.aload_n 0, 1) := by decide +kernel
theorem dX8_orders_48 : decode cX8_orders 48 = .ok (.getfield 149, 3) := by decide +kernel
theorem dX8_orders_51 : decode cX8_orders 51 = .ok (.iload_n 2, 1) := by decide +kernel
theorem dX8_orders_52 : decode cX8_orders 52 = .ok (.iastore, 1) := by decide +kernel
theorem dX8_orders_53 : decode cX8_orders 53 = .ok (.aload_n 0, 1) := by decide +kernel
theorem dX8_orders_54 : decode cX8_orders 54 = .ok (.dup, 1) := by decide +kernel
theorem dX8_orders_55 : decode cX8_orders 55 = .ok (.getfield 149, 3) := by decide +kernel
theorem dX8_orders_58 : decode cX8_orders 58 = .ok (.iconst 1, 1) := by decide +kernel
theorem dX8_orders_59 : decode cX8_orders 59 = .ok (.iadd, 1) := by decide +kernel
theorem dX8_orders_60 : decode cX8_orders 60 = .ok (.putfield 149, 3) := by decide +kernel
theorem dX8_orders_63 : decode cX8_orders 63 = .ok (.iinc 1 1, 3) := by decide +kernel
theorem dX8_orders_66 : decode cX8_orders 66 = .ok (.goto (-59), 3) := by decide +kernel
theorem dX8_orders_69 : decode cX8_orders 69 = .ok (.return_, 1) := by decide +kernel
theorem dX8_numberOf_0 : decode cX8_numberOf 0 = .ok (.iconst 0, 1) := by decide +kernel
theorem dX8_numberOf_1 : decode cX8_numberOf 1 = .ok (.istore_n 2, 1) := by decide +kernel
theorem dX8_numberOf_2 : decode cX8_numberOf 2 = .ok (.aload_n 0, 1) := by decide +kernel
theorem dX8_numberOf_3 : decode cX8_numberOf 3 = .ok (.getfield 29, 3) := by decide +kernel
theorem dX8_numberOf_6 : decode cX8_numberOf 6 = .ok (.iload_n 2, 1) := by decide +kernel
theorem dX8_numberOf_7 : decode cX8_numberOf 7 = .ok (.iaload, 1) := by decide +kernel
theorem dX8_numberOf_8 : decode cX8_numberOf 8 = .ok (.iload_n 1, 1) := by decide +kernel
theorem dX8_numberOf_9 : decode cX8_numberOf 9 = .ok (.if_icmp .eq 9, 3) := by decide +kernel
theorem dX8_numberOf_12 : decode cX8_numberOf 12 = .ok (.iinc 2 1, 3) := by decide +kernel
theorem dX8_numberOf_15 : decode cX8_numberOf 15 = .ok (.goto (-13), 3) := by decide +kernel
theorem dX8_numberOf_18 : decode cX8_numberOf 18 = .ok (.iload_n 2, 1) := by decide +kernel
theorem dX8_numberOf_19 : decode cX8_numberOf 19 = .ok (.ireturn, 1) := by decide +kernel
theorem dX8_isLake_0 : decode cX8_isLake 0 = .ok (.aload_n 0, 1) := by decide +kernel
theorem dX8_isLake_1 : decode cX8_isLake 1 = .ok (.invokevirtual 152, 3) := by decide +kernel
theorem dX8_isLake_4 : decode cX8_isLake 4 = .ok (.iload_n 1, 1) := by decide +kernel
theorem dX8_isLake_5 : decode cX8_isLake 5 = .ok (.i2l, 1) := by decide +kernel
theorem dX8_isLake_6 : decode cX8_isLake 6 = .ok (.lconst 0, 1) := by decide +kernel
theorem dX8_isLake_7 : decode cX8_isLake 7 = .ok (.aload_n 0, 1) := by decide +kernel
theorem dX8_isLake_8 : decode cX8_isLake 8 = .ok (.getfield 149, 3) := by decide +kernel
theorem dX8_isLake_11 : decode cX8_isLake 11 = .ok (.i2l, 1) := by decide +kernel
theorem dX8_isLake_12 : decode cX8_isLake 12 = .ok (.lconst 1, 1) := by decide +kernel
theorem dX8_isLake_13 : decode cX8_isLake 13 = .ok (.lsub, 1) := by decide +kernel
theorem dX8_isLake_14 : decode cX8_isLake 14 = .ok (.invokestatic 65, 3) := by decide +kernel
theorem dX8_isLake_17 : decode cX8_isLake 17 = .ok (.ireturn, 1) := by decide +kernel
theorem dX8_water_0 : decode cX8_water 0 = .ok (.lconst 0, 1) := by decide +kernel
theorem dX8_water_1 : decode cX8_water 1 = .ok (.lstore_n 1, 1) := by decide +kernel
theorem dX8_water_2 : decode cX8_water 2 = .ok (.iconst 0, 1) := by decide +kernel
theorem dX8_water_3 : decode cX8_water 3 = .ok (.istore_n 3, 1) := by decide +kernel
theorem dX8_water_4 : decode cX8_water 4 = .ok (.iload_n 3, 1) := by decide +kernel
theorem dX8_water_5 : decode cX8_water 5 = .ok (.bipush 72, 2) := by decide +kernel
theorem dX8_water_7 : decode cX8_water 7 = .ok (.if_icmp .ge 41, 3) := by decide +kernel
theorem dX8_water_10 : decode cX8_water 10 = .ok (.lload_n 1, 1) := by decide +kernel
theorem dX8_water_11 : decode cX8_water 11 = .ok (.aload_n 0, 1) := by decide +kernel
theorem dX8_water_12 : decode cX8_water 12 = .ok (.getfield 7, 3) := by decide +kernel
theorem dX8_water_15 : decode cX8_water 15 = .ok (.sipush 440, 3) := by decide +kernel
theorem dX8_water_18 : decode cX8_water 18 = .ok (.iload_n 3, 1) := by decide +kernel
theorem dX8_water_19 : decode cX8_water 19 = .ok (.iadd, 1) := by decide +kernel
theorem dX8_water_20 : decode cX8_water 20 = .ok (.laload, 1) := by decide +kernel
theorem dX8_water_21 : decode cX8_water 21 = .ok (.lconst 1, 1) := by decide +kernel
theorem dX8_water_22 : decode cX8_water 22 = .ok (.lcmp, 1) := by decide +kernel
theorem dX8_water_23 : decode cX8_water 23 = .ok (.ifCond .ne 16, 3) := by decide +kernel
theorem dX8_water_26 : decode cX8_water 26 = .ok (.aload_n 0, 1) := by decide +kernel
theorem dX8_water_27 : decode cX8_water 27 = .ok (.getfield 7, 3) := by decide +kernel
theorem dX8_water_30 : decode cX8_water 30 = .ok (.sipush 224, 3) := by decide +kernel
theorem dX8_water_33 : decode cX8_water 33 = .ok (.iload_n 3, 1) := by decide +kernel
theorem dX8_water_34 : decode cX8_water 34 = .ok (.iadd, 1) := by decide +kernel
theorem dX8_water_35 : decode cX8_water 35 = .ok (.laload, 1) := by decide +kernel
theorem dX8_water_36 : decode cX8_water 36 = .ok (.goto 4, 3) := by decide +kernel
theorem dX8_water_39 : decode cX8_water 39 = .ok (.lconst 0, 1) := by decide +kernel
theorem dX8_water_40 : decode cX8_water 40 = .ok (.ladd, 1) := by decide +kernel
theorem dX8_water_41 : decode cX8_water 41 = .ok (.lstore_n 1, 1) := by decide +kernel
theorem dX8_water_42 : decode cX8_water 42 = .ok (.iinc 3 1, 3) := by decide +kernel
theorem dX8_water_45 : decode cX8_water 45 = .ok (.goto (-41), 3) := by decide +kernel
theorem dX8_water_48 : decode cX8_water 48 = .ok (.lload_n 1, 1) := by decide +kernel
theorem dX8_water_49 : decode cX8_water 49 = .ok (.lreturn, 1) := by decide +kernel
theorem dX8_levels_0 : decode cX8_levels 0 = .ok (.aload_n 0, 1) := by decide +kernel
theorem dX8_levels_1 : decode cX8_levels 1 = .ok (.getfield 7, 3) := by decide +kernel
theorem dX8_levels_4 : decode cX8_levels 4 = .ok (.sipush 152, 3) := by decide +kernel
theorem dX8_levels_7 : decode cX8_levels 7 = .ok (.iload_n 1, 1) := by decide +kernel
theorem dX8_levels_8 : decode cX8_levels 8 = .ok (.iadd, 1) := by decide +kernel
theorem dX8_levels_9 : decode cX8_levels 9 = .ok (.laload, 1) := by decide +kernel
theorem dX8_levels_10 : decode cX8_levels 10 = .ok (.lstore_n 2, 1) := by decide +kernel
theorem dX8_levels_11 : decode cX8_levels 11 = .ok (.aload_n 0, 1) := by decide +kernel
theorem dX8_levels_12 : decode cX8_levels 12 = .ok (.getfield 7, 3) := by decide +kernel
theorem dX8_levels_15 : decode cX8_levels 15 = .ok (.sipush 224, 3) := by decide +kernel
theorem dX8_levels_18 : decode cX8_levels 18 = .ok (.iload_n 1, 1) := by decide +kernel
theorem dX8_levels_19 : decode cX8_levels 19 = .ok (.iadd, 1) := by decide +kernel
theorem dX8_levels_20 : decode cX8_levels 20 = .ok (.laload, 1) := by decide +kernel
theorem dX8_levels_21 : decode cX8_levels 21 = .ok (.lstore 4, 2) := by decide +kernel
theorem dX8_levels_23 : decode cX8_levels 23 = .ok (.aload_n 0, 1) := by decide +kernel
theorem dX8_levels_24 : decode cX8_levels 24 = .ok (.lconst 0, 1) := by decide +kernel
theorem dX8_levels_25 : decode cX8_levels 25 = .ok (.putfield 155, 3) := by decide +kernel
theorem dX8_levels_28 : decode cX8_levels 28 = .ok (.iconst 0, 1) := by decide +kernel
theorem dX8_levels_29 : decode cX8_levels 29 = .ok (.istore 6, 2) := by decide +kernel
theorem dX8_levels_31 : decode cX8_levels 31 = .ok (.iconst 0, 1) := by decide +kernel
theorem dX8_levels_32 : decode cX8_levels 32 = .ok (.istore 7, 2) := by decide +kernel
theorem dX8_levels_34 : decode cX8_levels 34 = .ok (.iload 7, 2) := by decide +kernel
theorem dX8_levels_36 : decode cX8_levels 36 = .ok (.bipush 100, 2) := by decide +kernel
theorem dX8_levels_38 : decode cX8_levels 38 = .ok (.if_icmp .ge 167, 3) := by decide +kernel
theorem dX8_levels_41 : decode cX8_levels 41 = .ok (.iload 6, 2) := by decide +kernel
theorem dX8_levels_43 : decode cX8_levels 43 = .ok (.ifCond .ne 162, 3) := by decide +kernel
theorem dX8_levels_46 : decode cX8_levels 46 = .ok (.iconst 0, 1) := by decide +kernel
theorem dX8_levels_47 : decode cX8_levels 47 = .ok (.istore 8, 2) := by decide +kernel
theorem dX8_levels_49 : decode cX8_levels 49 = .ok (.iconst 0, 1) := by decide +kernel
theorem dX8_levels_50 : decode cX8_levels 50 = .ok (.istore 9, 2) := by decide +kernel
theorem dX8_levels_52 : decode cX8_levels 52 = .ok (.iload 9, 2) := by decide +kernel
theorem dX8_levels_54 : decode cX8_levels 54 = .ok (.aload_n 0, 1) := by decide +kernel
theorem dX8_levels_55 : decode cX8_levels 55 = .ok (.invokevirtual 61, 3) := by decide +kernel
theorem dX8_levels_58 : decode cX8_levels 58 = .ok (.if_icmp .ge 104, 3) := by decide +kernel
theorem dX8_levels_61 : decode cX8_levels 61 = .ok (.lload_n 2, 1) := by decide +kernel
theorem dX8_levels_62 : decode cX8_levels 62 = .ok (.iload 9, 2) := by decide +kernel
theorem dX8_levels_64 : decode cX8_levels 64 = .ok (.invokestatic 91, 3) := by decide +kernel
theorem dX8_levels_67 : decode cX8_levels 67 = .ok (.ifCond .eq 18, 3) := by decide +kernel
theorem dX8_levels_70 : decode cX8_levels 70 = .ok (.aload_n 0, 1) := by decide +kernel
theorem dX8_levels_71 : decode cX8_levels 71 = .ok (.iload 9, 2) := by decide +kernel
theorem dX8_levels_73 : decode cX8_levels 73 = .ok (.invokevirtual 87, 3) := by decide +kernel
theorem dX8_levels_76 : decode cX8_levels 76 = .ok (.iload 7, 2) := by decide +kernel
theorem dX8_levels_78 : decode cX8_levels 78 = .ok (.if_icmp .ne 7, 3) := by decide +kernel
theorem dX8_levels_81 : decode cX8_levels 81 = .ok (.iconst 1, 1) := by decide +kernel
theorem dX8_levels_82 : decode cX8_levels 82 = .ok (.goto 4, 3) := by decide +kernel
theorem dX8_levels_85 : decode cX8_levels 85 = .ok (.iconst 0, 1) := by decide +kernel
theorem dX8_levels_86 : decode cX8_levels 86 = .ok (.istore 10, 2) := by decide +kernel
theorem dX8_levels_88 : decode cX8_levels 88 = .ok (.iload 8, 2) := by decide +kernel
theorem dX8_levels_90 : decode cX8_levels 90 = .ok (.ifCond .ne 23, 3) := by decide +kernel
theorem dX8_levels_93 : decode cX8_levels 93 = .ok (.lload_n 2, 1) := by decide +kernel
theorem dX8_levels_94 : decode cX8_levels 94 = .ok (.iload 9, 2) := by decide +kernel
theorem dX8_levels_96 : decode cX8_levels 96 = .ok (.invokestatic 91, 3) := by decide +kernel
theorem dX8_levels_99 : decode cX8_levels 99 = .ok (.ifCond .eq 18, 3) := by decide +kernel
theorem dX8_levels_102 : decode cX8_levels 102 = .ok (.aload_n 0, 1) := by decide +kernel
theorem dX8_levels_103 : decode cX8_levels 103 = .ok (.iload 9, 2) := by decide +kernel
theorem dX8_levels_105 : decode cX8_levels 105 = .ok (.invokevirtual 87, 3) := by decide +kernel
theorem dX8_levels_108 : decode cX8_levels 108 = .ok (.iload 7, 2) := by decide +kernel
theorem dX8_levels_110 : decode cX8_levels 110 = .ok (.if_icmp .le 7, 3) := by decide +kernel
theorem dX8_levels_113 : decode cX8_levels 113 = .ok (.iconst 1, 1) := by decide +kernel
theorem dX8_levels_114 : decode cX8_levels 114 = .ok (.goto 4, 3) := by decide +kernel
theorem dX8_levels_117 : decode cX8_levels 117 = .ok (.iconst 0, 1) := by decide +kernel
theorem dX8_levels_118 : decode cX8_levels 118 = .ok (.istore 8, 2) := by decide +kernel
theorem dX8_levels_120 : decode cX8_levels 120 = .ok (.aload_n 0, 1) := by decide +kernel
theorem dX8_levels_121 : decode cX8_levels 121 = .ok (.dup, 1) := by decide +kernel
theorem dX8_levels_122 : decode cX8_levels 122 = .ok (.getfield 155, 3) := by decide +kernel
theorem dX8_levels_125 : decode cX8_levels 125 = .ok (.iload 10, 2) := by decide +kernel
theorem dX8_levels_127 : decode cX8_levels 127 = .ok (.ifCond .eq 7, 3) := by decide +kernel
theorem dX8_levels_130 : decode cX8_levels 130 = .ok (.lconst 1, 1) := by decide +kernel
theorem dX8_levels_131 : decode cX8_levels 131 = .ok (.goto 4, 3) := by decide +kernel
theorem dX8_levels_134 : decode cX8_levels 134 = .ok (.lconst 0, 1) := by decide +kernel
theorem dX8_levels_135 : decode cX8_levels 135 = .ok (.ladd, 1) := by decide +kernel
theorem dX8_levels_136 : decode cX8_levels 136 = .ok (.putfield 155, 3) := by decide +kernel
theorem dX8_levels_139 : decode cX8_levels 139 = .ok (.lload 4, 2) := by decide +kernel
theorem dX8_levels_141 : decode cX8_levels 141 = .ok (.iload 10, 2) := by decide +kernel
theorem dX8_levels_143 : decode cX8_levels 143 = .ok (.ifCond .eq 9, 3) := by decide +kernel
theorem dX8_levels_146 : decode cX8_levels 146 = .ok (.iload 7, 2) := by decide +kernel
theorem dX8_levels_148 : decode cX8_levels 148 = .ok (.i2l, 1) := by decide +kernel
theorem dX8_levels_149 : decode cX8_levels 149 = .ok (.goto 4, 3) := by decide +kernel
theorem dX8_levels_152 : decode cX8_levels 152 = .ok (.lconst 0, 1) := by decide +kernel
theorem dX8_levels_153 : decode cX8_levels 153 = .ok (.ladd, 1) := by decide +kernel
theorem dX8_levels_154 : decode cX8_levels 154 = .ok (.lstore 4, 2) := by decide +kernel
theorem dX8_levels_156 : decode cX8_levels 156 = .ok (.iinc 9 1, 3) := by decide +kernel
theorem dX8_levels_159 : decode cX8_levels 159 = .ok (.goto (-107), 3) := by decide +kernel
theorem dX8_levels_162 : decode cX8_levels 162 = .ok (.aload_n 0, 1) := by decide +kernel
theorem dX8_levels_163 : decode cX8_levels 163 = .ok (.getfield 155, 3) := by decide +kernel
theorem dX8_levels_166 : decode cX8_levels 166 = .ok (.lconst 0, 1) := by decide +kernel
theorem dX8_levels_167 : decode cX8_levels 167 = .ok (.lcmp, 1) := by decide +kernel
theorem dX8_levels_168 : decode cX8_levels 168 = .ok (.ifCond .le 28, 3) := by decide +kernel
theorem dX8_levels_171 : decode cX8_levels 171 = .ok (.iload 8, 2) := by decide +kernel
theorem dX8_levels_173 : decode cX8_levels 173 = .ok (.ifCond .eq 19, 3) := by decide +kernel
theorem dX8_levels_176 : decode cX8_levels 176 = .ok (.lload 4, 2) := by decide +kernel
theorem dX8_levels_178 : decode cX8_levels 178 = .ok (.aload_n 0, 1) := by decide +kernel
theorem dX8_levels_179 : decode cX8_levels 179 = .ok (.getfield 155, 3) := by decide +kernel
theorem dX8_levels_182 : decode cX8_levels 182 = .ok (.iload 7, 2) := by decide +kernel
theorem dX8_levels_184 : decode cX8_levels 184 = .ok (.i2l, 1) := by decide +kernel
theorem dX8_levels_185 : decode cX8_levels 185 = .ok (.lconst 1, 1) := by decide +kernel
theorem dX8_levels_186 : decode cX8_levels 186 = .ok (.ladd, 1) := by decide +kernel
theorem dX8_levels_187 : decode cX8_levels 187 = .ok (.lmul, 1) := by decide +kernel
theorem dX8_levels_188 : decode cX8_levels 188 = .ok (.lcmp, 1) := by decide +kernel
theorem dX8_levels_189 : decode cX8_levels 189 = .ok (.ifCond .gt 7, 3) := by decide +kernel
theorem dX8_levels_192 : decode cX8_levels 192 = .ok (.iconst 1, 1) := by decide +kernel
theorem dX8_levels_193 : decode cX8_levels 193 = .ok (.goto 4, 3) := by decide +kernel
theorem dX8_levels_196 : decode cX8_levels 196 = .ok (.iconst 0, 1) := by decide +kernel
theorem dX8_levels_197 : decode cX8_levels 197 = .ok (.istore 6, 2) := by decide +kernel
theorem dX8_levels_199 : decode cX8_levels 199 = .ok (.iinc 7 1, 3) := by decide +kernel
theorem dX8_levels_202 : decode cX8_levels 202 = .ok (.goto (-168), 3) := by decide +kernel
theorem dX8_levels_205 : decode cX8_levels 205 = .ok (.aload_n 0, 1) := by decide +kernel
theorem dX8_levels_206 : decode cX8_levels 206 = .ok (.lload 4, 2) := by decide +kernel
theorem dX8_levels_208 : decode cX8_levels 208 = .ok (.putfield 159, 3) := by decide +kernel
theorem dX8_levels_211 : decode cX8_levels 211 = .ok (.return_, 1) := by decide +kernel
theorem dX8_isWet_0 : decode cX8_isWet 0 = .ok (.aload_n 0, 1) := by decide +kernel
theorem dX8_isWet_1 : decode cX8_isWet 1 = .ok (.iload_n 1, 1) := by decide +kernel
theorem dX8_isWet_2 : decode cX8_isWet 2 = .ok (.invokevirtual 133, 3) := by decide +kernel
theorem dX8_isWet_5 : decode cX8_isWet 5 = .ok (.istore_n 2, 1) := by decide +kernel
theorem dX8_isWet_6 : decode cX8_isWet 6 = .ok (.iload_n 2, 1) := by decide +kernel
theorem dX8_isWet_7 : decode cX8_isWet 7 = .ok (.iconst (-1), 1) := by decide +kernel
theorem dX8_isWet_8 : decode cX8_isWet 8 = .ok (.if_icmp .ne 5, 3) := by decide +kernel
theorem dX8_isWet_11 : decode cX8_isWet 11 = .ok (.iconst 0, 1) := by decide +kernel
theorem dX8_isWet_12 : decode cX8_isWet 12 = .ok (.ireturn, 1) := by decide +kernel
theorem dX8_isWet_13 : decode cX8_isWet 13 = .ok (.aload_n 0, 1) := by decide +kernel
theorem dX8_isWet_14 : decode cX8_isWet 14 = .ok (.iload_n 2, 1) := by decide +kernel
theorem dX8_isWet_15 : decode cX8_isWet 15 = .ok (.invokevirtual 162, 3) := by decide +kernel
theorem dX8_isWet_18 : decode cX8_isWet 18 = .ok (.aload_n 0, 1) := by decide +kernel
theorem dX8_isWet_19 : decode cX8_isWet 19 = .ok (.getfield 159, 3) := by decide +kernel
theorem dX8_isWet_22 : decode cX8_isWet 22 = .ok (.aload_n 0, 1) := by decide +kernel
theorem dX8_isWet_23 : decode cX8_isWet 23 = .ok (.getfield 155, 3) := by decide +kernel
theorem dX8_isWet_26 : decode cX8_isWet 26 = .ok (.aload_n 0, 1) := by decide +kernel
theorem dX8_isWet_27 : decode cX8_isWet 27 = .ok (.iload_n 1, 1) := by decide +kernel
theorem dX8_isWet_28 : decode cX8_isWet 28 = .ok (.invokevirtual 87, 3) := by decide +kernel
theorem dX8_isWet_31 : decode cX8_isWet 31 = .ok (.i2l, 1) := by decide +kernel
theorem dX8_isWet_32 : decode cX8_isWet 32 = .ok (.lmul, 1) := by decide +kernel
theorem dX8_isWet_33 : decode cX8_isWet 33 = .ok (.lcmp, 1) := by decide +kernel
theorem dX8_isWet_34 : decode cX8_isWet 34 = .ok (.ifCond .le 7, 3) := by decide +kernel
theorem dX8_isWet_37 : decode cX8_isWet 37 = .ok (.iconst 1, 1) := by decide +kernel
theorem dX8_isWet_38 : decode cX8_isWet 38 = .ok (.goto 4, 3) := by decide +kernel
theorem dX8_isWet_41 : decode cX8_isWet 41 = .ok (.iconst 0, 1) := by decide +kernel
theorem dX8_isWet_42 : decode cX8_isWet 42 = .ok (.ireturn, 1) := by decide +kernel
theorem dX8_wetOf_0 : decode cX8_wetOf 0 = .ok (.iconst 0, 1) := by decide +kernel
theorem dX8_wetOf_1 : decode cX8_wetOf 1 = .ok (.istore_n 3, 1) := by decide +kernel
theorem dX8_wetOf_2 : decode cX8_wetOf 2 = .ok (.iconst 0, 1) := by decide +kernel
theorem dX8_wetOf_3 : decode cX8_wetOf 3 = .ok (.istore 4, 2) := by decide +kernel
theorem dX8_wetOf_5 : decode cX8_wetOf 5 = .ok (.iload 4, 2) := by decide +kernel
theorem dX8_wetOf_7 : decode cX8_wetOf 7 = .ok (.aload_n 0, 1) := by decide +kernel
theorem dX8_wetOf_8 : decode cX8_wetOf 8 = .ok (.invokevirtual 61, 3) := by decide +kernel
theorem dX8_wetOf_11 : decode cX8_wetOf 11 = .ok (.if_icmp .ge 35, 3) := by decide +kernel
theorem dX8_wetOf_14 : decode cX8_wetOf 14 = .ok (.iload_n 3, 1) := by decide +kernel
theorem dX8_wetOf_15 : decode cX8_wetOf 15 = .ok (.lload_n 1, 1) := by decide +kernel
theorem dX8_wetOf_16 : decode cX8_wetOf 16 = .ok (.iload 4, 2) := by decide +kernel
theorem dX8_wetOf_18 : decode cX8_wetOf 18 = .ok (.invokestatic 91, 3) := by decide +kernel
theorem dX8_wetOf_21 : decode cX8_wetOf 21 = .ok (.ifCond .eq 16, 3) := by decide +kernel
theorem dX8_wetOf_24 : decode cX8_wetOf 24 = .ok (.aload_n 0, 1) := by decide +kernel
theorem dX8_wetOf_25 : decode cX8_wetOf 25 = .ok (.iload 4, 2) := by decide +kernel
theorem dX8_wetOf_27 : decode cX8_wetOf 27 = .ok (.invokevirtual 165, 3) := by decide +kernel
theorem dX8_wetOf_30 : decode cX8_wetOf 30 = .ok (.ifCond .eq 7, 3) := by decide +kernel
theorem dX8_wetOf_33 : decode cX8_wetOf 33 = .ok (.iconst 1, 1) := by decide +kernel
theorem dX8_wetOf_34 : decode cX8_wetOf 34 = .ok (.goto 4, 3) := by decide +kernel
theorem dX8_wetOf_37 : decode cX8_wetOf 37 = .ok (.iconst 0, 1) := by decide +kernel
theorem dX8_wetOf_38 : decode cX8_wetOf 38 = .ok (.iadd, 1) := by decide +kernel
theorem dX8_wetOf_39 : decode cX8_wetOf 39 = .ok (.istore_n 3, 1) := by decide +kernel
theorem dX8_wetOf_40 : decode cX8_wetOf 40 = .ok (.iinc 4 1, 3) := by decide +kernel
theorem dX8_wetOf_43 : decode cX8_wetOf 43 = .ok (.goto (-38), 3) := by decide +kernel
theorem dX8_wetOf_46 : decode cX8_wetOf 46 = .ok (.iload_n 3, 1) := by decide +kernel
theorem dX8_wetOf_47 : decode cX8_wetOf 47 = .ok (.ireturn, 1) := by decide +kernel
theorem dX8_wet_0 : decode cX8_wet 0 = .ok (.aload_n 0, 1) := by decide +kernel
theorem dX8_wet_1 : decode cX8_wet 1 = .ok (.lconst 1, 1) := by decide +kernel
theorem dX8_wet_2 : decode cX8_wet 2 = .ok (.aload_n 0, 1) := by decide +kernel
theorem dX8_wet_3 : decode cX8_wet 3 = .ok (.invokevirtual 61, 3) := by decide +kernel
theorem dX8_wet_6 : decode cX8_wet 6 = .ok (.lshl, 1) := by decide +kernel
theorem dX8_wet_7 : decode cX8_wet 7 = .ok (.lconst 1, 1) := by decide +kernel
theorem dX8_wet_8 : decode cX8_wet 8 = .ok (.lsub, 1) := by decide +kernel
theorem dX8_wet_9 : decode cX8_wet 9 = .ok (.invokevirtual 168, 3) := by decide +kernel
theorem dX8_wet_12 : decode cX8_wet 12 = .ok (.ireturn, 1) := by decide +kernel
theorem dX8_divisor_0 : decode cX8_divisor 0 = .ok (.lload_n 0, 1) := by decide +kernel
theorem dX8_divisor_1 : decode cX8_divisor 1 = .ok (.lstore 4, 2) := by decide +kernel
theorem dX8_divisor_3 : decode cX8_divisor 3 = .ok (.lload_n 2, 1) := by decide +kernel
theorem dX8_divisor_4 : decode cX8_divisor 4 = .ok (.lstore 6, 2) := by decide +kernel
theorem dX8_divisor_6 : decode cX8_divisor 6 = .ok (.lload 6, 2) := by decide +kernel
theorem dX8_divisor_8 : decode cX8_divisor 8 = .ok (.lconst 0, 1) := by decide +kernel
theorem dX8_divisor_9 : decode cX8_divisor 9 = .ok (.lcmp, 1) := by decide +kernel
theorem dX8_divisor_10 : decode cX8_divisor 10 = .ok (.ifCond .eq 21, 3) := by decide +kernel
theorem dX8_divisor_13 : decode cX8_divisor 13 = .ok (.lload 4, 2) := by decide +kernel
theorem dX8_divisor_15 : decode cX8_divisor 15 = .ok (.lload 6, 2) := by decide +kernel
theorem dX8_divisor_17 : decode cX8_divisor 17 = .ok (.lrem, 1) := by decide +kernel
theorem dX8_divisor_18 : decode cX8_divisor 18 = .ok (.lstore 8, 2) := by decide +kernel
theorem dX8_divisor_20 : decode cX8_divisor 20 = .ok (.lload 6, 2) := by decide +kernel
theorem dX8_divisor_22 : decode cX8_divisor 22 = .ok (.lstore 4, 2) := by decide +kernel
theorem dX8_divisor_24 : decode cX8_divisor 24 = .ok (.lload 8, 2) := by decide +kernel
theorem dX8_divisor_26 : decode cX8_divisor 26 = .ok (.lstore 6, 2) := by decide +kernel
theorem dX8_divisor_28 : decode cX8_divisor 28 = .ok (.goto (-22), 3) := by decide +kernel
theorem dX8_divisor_31 : decode cX8_divisor 31 = .ok (.lload 4, 2) := by decide +kernel
theorem dX8_divisor_33 : decode cX8_divisor 33 = .ok (.lreturn, 1) := by decide +kernel
theorem dX8_bits_0 : decode cX8_bits 0 = .ok (.iconst 0, 1) := by decide +kernel
theorem dX8_bits_1 : decode cX8_bits 1 = .ok (.istore_n 2, 1) := by decide +kernel
theorem dX8_bits_2 : decode cX8_bits 2 = .ok (.lload_n 0, 1) := by decide +kernel
theorem dX8_bits_3 : decode cX8_bits 3 = .ok (.lstore_n 3, 1) := by decide +kernel
theorem dX8_bits_4 : decode cX8_bits 4 = .ok (.lload_n 3, 1) := by decide +kernel
theorem dX8_bits_5 : decode cX8_bits 5 = .ok (.lconst 0, 1) := by decide +kernel
theorem dX8_bits_6 : decode cX8_bits 6 = .ok (.lcmp, 1) := by decide +kernel
theorem dX8_bits_7 : decode cX8_bits 7 = .ok (.ifCond .eq 15, 3) := by decide +kernel
theorem dX8_bits_10 : decode cX8_bits 10 = .ok (.iinc 2 1, 3) := by decide +kernel
theorem dX8_bits_13 : decode cX8_bits 13 = .ok (.lload_n 3, 1) := by decide +kernel
theorem dX8_bits_14 : decode cX8_bits 14 = .ok (.lload_n 3, 1) := by decide +kernel
theorem dX8_bits_15 : decode cX8_bits 15 = .ok (.lconst 1, 1) := by decide +kernel
theorem dX8_bits_16 : decode cX8_bits 16 = .ok (.lsub, 1) := by decide +kernel
theorem dX8_bits_17 : decode cX8_bits 17 = .ok (.land, 1) := by decide +kernel
theorem dX8_bits_18 : decode cX8_bits 18 = .ok (.lstore_n 3, 1) := by decide +kernel
theorem dX8_bits_19 : decode cX8_bits 19 = .ok (.goto (-15), 3) := by decide +kernel
theorem dX8_bits_22 : decode cX8_bits 22 = .ok (.iload_n 2, 1) := by decide +kernel
theorem dX8_bits_23 : decode cX8_bits 23 = .ok (.ireturn, 1) := by decide +kernel
theorem dX8_remembers_0 : decode cX8_remembers 0 = .ok (.aload_n 0, 1) := by decide +kernel
theorem dX8_remembers_1 : decode cX8_remembers 1 = .ok (.invokevirtual 152, 3) := by decide +kernel
theorem dX8_remembers_4 : decode cX8_remembers 4 = .ok (.aload_n 0, 1) := by decide +kernel
theorem dX8_remembers_5 : decode cX8_remembers 5 = .ok (.aload_n 0, 1) := by decide +kernel
theorem dX8_remembers_6 : decode cX8_remembers 6 = .ok (.getfield 149, 3) := by decide +kernel
theorem dX8_remembers_9 : decode cX8_remembers 9 = .ok (.putfield 171, 3) := by decide +kernel
theorem dX8_remembers_12 : decode cX8_remembers 12 = .ok (.iconst 0, 1) := by decide +kernel
theorem dX8_remembers_13 : decode cX8_remembers 13 = .ok (.istore_n 1, 1) := by decide +kernel
theorem dX8_remembers_14 : decode cX8_remembers 14 = .ok (.iload_n 1, 1) := by decide +kernel
theorem dX8_remembers_15 : decode cX8_remembers 15 = .ok (.aload_n 0, 1) := by decide +kernel
theorem dX8_remembers_16 : decode cX8_remembers 16 = .ok (.getfield 149, 3) := by decide +kernel
theorem dX8_remembers_19 : decode cX8_remembers 19 = .ok (.if_icmp .ge 105, 3) := by decide +kernel
theorem dX8_remembers_22 : decode cX8_remembers 22 = .ok (.aload_n 0, 1) := by decide +kernel
theorem dX8_remembers_23 : decode cX8_remembers 23 = .ok (.getfield 32, 3) := by decide +kernel
theorem dX8_remembers_26 : decode cX8_remembers 26 = .ok (.iload_n 1, 1) := by decide +kernel
theorem dX8_remembers_27 : decode cX8_remembers 27 = .ok (.aload_n 0, 1) := by decide +kernel
theorem dX8_remembers_28 : decode cX8_remembers 28 = .ok (.getfield 7, 3) := by decide +kernel
theorem dX8_remembers_31 : decode cX8_remembers 31 = .ok (.sipush 224, 3) := by decide +kernel
theorem dX8_remembers_34 : decode cX8_remembers 34 = .ok (.aload_n 0, 1) := by decide +kernel
theorem dX8_remembers_35 : decode cX8_remembers 35 = .ok (.getfield 29, 3) := by decide +kernel
theorem dX8_remembers_38 : decode cX8_remembers 38 = .ok (.iload_n 1, 1) := by decide +kernel
theorem dX8_remembers_39 : decode cX8_remembers 39 = .ok (.iaload, 1) := by decide +kernel
theorem dX8_remembers_40 : decode cX8_remembers 40 = .ok (.iadd, 1) := by decide +kernel
theorem dX8_remembers_41 : decode cX8_remembers 41 = .ok (.laload, 1) := by decide +kernel
theorem dX8_remembers_42 : decode cX8_remembers 42 = .ok (.lastore, 1) := by decide +kernel
theorem dX8_remembers_43 : decode cX8_remembers 43 = .ok (.iconst (-1), 1) := by decide +kernel
theorem dX8_remembers_44 : decode cX8_remembers 44 = .ok (.istore_n 2, 1) := by decide +kernel
theorem dX8_remembers_45 : decode cX8_remembers 45 = .ok (.iconst 0, 1) := by decide +kernel
theorem dX8_remembers_46 : decode cX8_remembers 46 = .ok (.istore_n 3, 1) := by decide +kernel
theorem dX8_remembers_47 : decode cX8_remembers 47 = .ok (.iload_n 3, 1) := by decide +kernel
theorem dX8_remembers_48 : decode cX8_remembers 48 = .ok (.aload_n 0, 1) := by decide +kernel
theorem dX8_remembers_49 : decode cX8_remembers 49 = .ok (.invokevirtual 61, 3) := by decide +kernel
theorem dX8_remembers_52 : decode cX8_remembers 52 = .ok (.if_icmp .ge 59, 3) := by decide +kernel
theorem dX8_remembers_55 : decode cX8_remembers 55 = .ok (.aload_n 0, 1) := by decide +kernel
theorem dX8_remembers_56 : decode cX8_remembers 56 = .ok (.getfield 7, 3) := by decide +kernel
theorem dX8_remembers_59 : decode cX8_remembers 59 = .ok (.sipush 152, 3) := by decide +kernel
theorem dX8_remembers_62 : decode cX8_remembers 62 = .ok (.aload_n 0, 1) := by decide +kernel
theorem dX8_remembers_63 : decode cX8_remembers 63 = .ok (.getfield 29, 3) := by decide +kernel
theorem dX8_remembers_66 : decode cX8_remembers 66 = .ok (.iload_n 1, 1) := by decide +kernel
theorem dX8_remembers_67 : decode cX8_remembers 67 = .ok (.iaload, 1) := by decide +kernel
theorem dX8_remembers_68 : decode cX8_remembers 68 = .ok (.iadd, 1) := by decide +kernel
theorem dX8_remembers_69 : decode cX8_remembers 69 = .ok (.laload, 1) := by decide +kernel
theorem dX8_remembers_70 : decode cX8_remembers 70 = .ok (.iload_n 3, 1) := by decide +kernel
theorem dX8_remembers_71 : decode cX8_remembers 71 = .ok (.invokestatic 91, 3) := by decide +kernel
theorem dX8_remembers_74 : decode cX8_remembers 74 = .ok (.istore 4, 2) := by decide +kernel
theorem dX8_remembers_76 : decode cX8_remembers 76 = .ok (.iload 4, 2) := by decide +kernel
theorem dX8_remembers_78 : decode cX8_remembers 78 = .ok (.ifCond .eq 25, 3) := by decide +kernel
theorem dX8_remembers_81 : decode cX8_remembers 81 = .ok (.iload_n 2, 1) := by decide +kernel
theorem dX8_remembers_82 : decode cX8_remembers 82 = .ok (.iconst (-1), 1) := by decide +kernel
theorem dX8_remembers_83 : decode cX8_remembers 83 = .ok (.if_icmp .eq 16, 3) := by decide +kernel
theorem dX8_remembers_86 : decode cX8_remembers 86 = .ok (.aload_n 0, 1) := by decide +kernel
theorem dX8_remembers_87 : decode cX8_remembers 87 = .ok (.iload_n 3, 1) := by decide +kernel
theorem dX8_remembers_88 : decode cX8_remembers 88 = .ok (.invokevirtual 87, 3) := by decide +kernel
theorem dX8_remembers_91 : decode cX8_remembers 91 = .ok (.aload_n 0, 1) := by decide +kernel
theorem dX8_remembers_92 : decode cX8_remembers 92 = .ok (.iload_n 2, 1) := by decide +kernel
theorem dX8_remembers_93 : decode cX8_remembers 93 = .ok (.invokevirtual 87, 3) := by decide +kernel
theorem dX8_remembers_96 : decode cX8_remembers 96 = .ok (.if_icmp .ge 7, 3) := by decide +kernel
theorem dX8_remembers_99 : decode cX8_remembers 99 = .ok (.iload_n 3, 1) := by decide +kernel
theorem dX8_remembers_100 : decode cX8_remembers 100 = .ok (.goto 4, 3) := by decide +kernel
theorem dX8_remembers_103 : decode cX8_remembers 103 = .ok (.iload_n 2, 1) := by decide +kernel
theorem dX8_remembers_104 : decode cX8_remembers 104 = .ok (.istore_n 2, 1) := by decide +kernel
theorem dX8_remembers_105 : decode cX8_remembers 105 = .ok (.iinc 3 1, 3) := by decide +kernel
theorem dX8_remembers_108 : decode cX8_remembers 108 = .ok (.goto (-61), 3) := by decide +kernel
theorem dX8_remembers_111 : decode cX8_remembers 111 = .ok (.aload_n 0, 1) := by decide +kernel
theorem dX8_remembers_112 : decode cX8_remembers 112 = .ok (.getfield 35, 3) := by decide +kernel
theorem dX8_remembers_115 : decode cX8_remembers 115 = .ok (.iload_n 1, 1) := by decide +kernel
theorem dX8_remembers_116 : decode cX8_remembers 116 = .ok (.iload_n 2, 1) := by decide +kernel
theorem dX8_remembers_117 : decode cX8_remembers 117 = .ok (.iastore, 1) := by decide +kernel
theorem dX8_remembers_118 : decode cX8_remembers 118 = .ok (.iinc 1 1, 3) := by decide +kernel
theorem dX8_remembers_121 : decode cX8_remembers 121 = .ok (.goto (-107), 3) := by decide +kernel
theorem dX8_remembers_124 : decode cX8_remembers 124 = .ok (.return_, 1) := by decide +kernel
theorem dX8_changes_0 : decode cX8_changes 0 = .ok (.aload_n 0, 1) := by decide +kernel
theorem dX8_changes_1 : decode cX8_changes 1 = .ok (.invokevirtual 174, 3) := by decide +kernel
theorem dX8_changes_4 : decode cX8_changes 4 = .ok (.iconst 0, 1) := by decide +kernel
theorem dX8_changes_5 : decode cX8_changes 5 = .ok (.istore_n 1, 1) := by decide +kernel
theorem dX8_changes_6 : decode cX8_changes 6 = .ok (.iload_n 1, 1) := by decide +kernel
theorem dX8_changes_7 : decode cX8_changes 7 = .ok (.aload_n 0, 1) := by decide +kernel
theorem dX8_changes_8 : decode cX8_changes 8 = .ok (.getfield 171, 3) := by decide +kernel
theorem dX8_changes_11 : decode cX8_changes 11 = .ok (.if_icmp .ge 25, 3) := by decide +kernel
theorem dX8_changes_14 : decode cX8_changes 14 = .ok (.aload_n 0, 1) := by decide +kernel
theorem dX8_changes_15 : decode cX8_changes 15 = .ok (.aload_n 0, 1) := by decide +kernel
theorem dX8_changes_16 : decode cX8_changes 16 = .ok (.getfield 35, 3) := by decide +kernel
theorem dX8_changes_19 : decode cX8_changes 19 = .ok (.iload_n 1, 1) := by decide +kernel
theorem dX8_changes_20 : decode cX8_changes 20 = .ok (.iaload, 1) := by decide +kernel
theorem dX8_changes_21 : decode cX8_changes 21 = .ok (.aload_n 0, 1) := by decide +kernel
theorem dX8_changes_22 : decode cX8_changes 22 = .ok (.getfield 32, 3) := by decide +kernel
theorem dX8_changes_25 : decode cX8_changes 25 = .ok (.iload_n 1, 1) := by decide +kernel
theorem dX8_changes_26 : decode cX8_changes 26 = .ok (.laload, 1) := by decide +kernel
theorem dX8_changes_27 : decode cX8_changes 27 = .ok (.invokevirtual 177, 3) := by decide +kernel
theorem dX8_changes_30 : decode cX8_changes 30 = .ok (.iinc 1 1, 3) := by decide +kernel
theorem dX8_changes_33 : decode cX8_changes 33 = .ok (.goto (-27), 3) := by decide +kernel
theorem dX8_changes_36 : decode cX8_changes 36 = .ok (.return_, 1) := by decide +kernel
theorem dX8_begins_0 : decode cX8_begins 0 = .ok (.iconst 0, 1) := by decide +kernel
theorem dX8_begins_1 : decode cX8_begins 1 = .ok (.istore_n 3, 1) := by decide +kernel
theorem dX8_begins_2 : decode cX8_begins 2 = .ok (.iload_n 3, 1) := by decide +kernel
theorem dX8_begins_3 : decode cX8_begins 3 = .ok (.sipush 513, 3) := by decide +kernel
theorem dX8_begins_6 : decode cX8_begins 6 = .ok (.if_icmp .ge 34, 3) := by decide +kernel
theorem dX8_begins_9 : decode cX8_begins 9 = .ok (.aload_n 0, 1) := by decide +kernel
theorem dX8_begins_10 : decode cX8_begins 10 = .ok (.getfield 7, 3) := by decide +kernel
theorem dX8_begins_13 : decode cX8_begins 13 = .ok (.iload_n 3, 1) := by decide +kernel
theorem dX8_begins_14 : decode cX8_begins 14 = .ok (.iload_n 3, 1) := by decide +kernel
theorem dX8_begins_15 : decode cX8_begins 15 = .ok (.bipush 44, 2) := by decide +kernel
theorem dX8_begins_17 : decode cX8_begins 17 = .ok (.if_icmp .lt 15, 3) := by decide +kernel
theorem dX8_begins_20 : decode cX8_begins 20 = .ok (.iload_n 3, 1) := by decide +kernel
theorem dX8_begins_21 : decode cX8_begins 21 = .ok (.bipush 116, 2) := by decide +kernel
theorem dX8_begins_23 : decode cX8_begins 23 = .ok (.if_icmp .ge 9, 3) := by decide +kernel
theorem dX8_begins_26 : decode cX8_begins 26 = .ok (.ldc2_w 109, 3) := by decide +kernel
theorem dX8_begins_29 : decode cX8_begins 29 = .ok (.goto 4, 3) := by decide +kernel
theorem dX8_begins_32 : decode cX8_begins 32 = .ok (.lconst 0, 1) := by decide +kernel
theorem dX8_begins_33 : decode cX8_begins 33 = .ok (.lastore, 1) := by decide +kernel
theorem dX8_begins_34 : decode cX8_begins 34 = .ok (.iinc 3 1, 3) := by decide +kernel
theorem dX8_begins_37 : decode cX8_begins 37 = .ok (.goto (-35), 3) := by decide +kernel
theorem dX8_begins_40 : decode cX8_begins 40 = .ok (.aload_n 0, 1) := by decide +kernel
theorem dX8_begins_41 : decode cX8_begins 41 = .ok (.getfield 7, 3) := by decide +kernel
theorem dX8_begins_44 : decode cX8_begins 44 = .ok (.iconst 0, 1) := by decide +kernel
theorem dX8_begins_45 : decode cX8_begins 45 = .ok (.iload_n 1, 1) := by decide +kernel
theorem dX8_begins_46 : decode cX8_begins 46 = .ok (.i2l, 1) := by decide +kernel
theorem dX8_begins_47 : decode cX8_begins 47 = .ok (.lastore, 1) := by decide +kernel
theorem dX8_begins_48 : decode cX8_begins 48 = .ok (.aload_n 0, 1) := by decide +kernel
theorem dX8_begins_49 : decode cX8_begins 49 = .ok (.getfield 7, 3) := by decide +kernel
theorem dX8_begins_52 : decode cX8_begins 52 = .ok (.iconst 1, 1) := by decide +kernel
theorem dX8_begins_53 : decode cX8_begins 53 = .ok (.iload_n 2, 1) := by decide +kernel
theorem dX8_begins_54 : decode cX8_begins 54 = .ok (.i2l, 1) := by decide +kernel
theorem dX8_begins_55 : decode cX8_begins 55 = .ok (.lastore, 1) := by decide +kernel
theorem dX8_begins_56 : decode cX8_begins 56 = .ok (.aload_n 0, 1) := by decide +kernel
theorem dX8_begins_57 : decode cX8_begins 57 = .ok (.invokevirtual 174, 3) := by decide +kernel
theorem dX8_begins_60 : decode cX8_begins 60 = .ok (.return_, 1) := by decide +kernel
theorem dX8_begin_0 : decode cX8_begin 0 = .ok (.aload_n 0, 1) := by decide +kernel
theorem dX8_begin_1 : decode cX8_begin 1 = .ok (.iload_n 1, 1) := by decide +kernel
theorem dX8_begin_2 : decode cX8_begin 2 = .ok (.i2l, 1) := by decide +kernel
theorem dX8_begin_3 : decode cX8_begin 3 = .ok (.lconst 1, 1) := by decide +kernel
theorem dX8_begin_4 : decode cX8_begin 4 = .ok (.ldc2_w 181, 3) := by decide +kernel
theorem dX8_begin_7 : decode cX8_begin 7 = .ok (.invokestatic 65, 3) := by decide +kernel
theorem dX8_begin_10 : decode cX8_begin 10 = .ok (.ifCond .eq 19, 3) := by decide +kernel
theorem dX8_begin_13 : decode cX8_begin 13 = .ok (.iload_n 2, 1) := by decide +kernel
theorem dX8_begin_14 : decode cX8_begin 14 = .ok (.i2l, 1) := by decide +kernel
theorem dX8_begin_15 : decode cX8_begin 15 = .ok (.lconst 1, 1) := by decide +kernel
theorem dX8_begin_16 : decode cX8_begin 16 = .ok (.ldc2_w 181, 3) := by decide +kernel
theorem dX8_begin_19 : decode cX8_begin 19 = .ok (.invokestatic 65, 3) := by decide +kernel
theorem dX8_begin_22 : decode cX8_begin 22 = .ok (.ifCond .eq 7, 3) := by decide +kernel
theorem dX8_begin_25 : decode cX8_begin 25 = .ok (.iconst 1, 1) := by decide +kernel
theorem dX8_begin_26 : decode cX8_begin 26 = .ok (.goto 4, 3) := by decide +kernel
theorem dX8_begin_29 : decode cX8_begin 29 = .ok (.iconst 0, 1) := by decide +kernel
theorem dX8_begin_30 : decode cX8_begin 30 = .ok (.iconst 1, 1) := by decide +kernel
theorem dX8_begin_31 : decode cX8_begin 31 = .ok (.iconst 1, 1) := by decide +kernel
theorem dX8_begin_32 : decode cX8_begin 32 = .ok (.invokevirtual 183, 3) := by decide +kernel
theorem dX8_begin_35 : decode cX8_begin 35 = .ok (.ifCond .ne 5, 3) := by decide +kernel
theorem dX8_begin_38 : decode cX8_begin 38 = .ok (.iconst 0, 1) := by decide +kernel
theorem dX8_begin_39 : decode cX8_begin 39 = .ok (.ireturn, 1) := by decide +kernel
theorem dX8_begin_40 : decode cX8_begin 40 = .ok (.aload_n 0, 1) := by decide +kernel
theorem dX8_begin_41 : decode cX8_begin 41 = .ok (.invokevirtual 187, 3) := by decide +kernel
theorem dX8_begin_44 : decode cX8_begin 44 = .ok (.aload_n 0, 1) := by decide +kernel
theorem dX8_begin_45 : decode cX8_begin 45 = .ok (.iload_n 1, 1) := by decide +kernel
theorem dX8_begin_46 : decode cX8_begin 46 = .ok (.iload_n 2, 1) := by decide +kernel
theorem dX8_begin_47 : decode cX8_begin 47 = .ok (.invokevirtual 50, 3) := by decide +kernel
theorem dX8_begin_50 : decode cX8_begin 50 = .ok (.aload_n 0, 1) := by decide +kernel
theorem dX8_begin_51 : decode cX8_begin 51 = .ok (.invokevirtual 61, 3) := by decide +kernel
theorem dX8_begin_54 : decode cX8_begin 54 = .ok (.ireturn, 1) := by decide +kernel
theorem dX8_setHeight_0 : decode cX8_setHeight 0 = .ok (.aload_n 0, 1) := by decide +kernel
theorem dX8_setHeight_1 : decode cX8_setHeight 1 = .ok (.aload_n 0, 1) := by decide +kernel
theorem dX8_setHeight_2 : decode cX8_setHeight 2 = .ok (.iload_n 1, 1) := by decide +kernel
theorem dX8_setHeight_3 : decode cX8_setHeight 3 = .ok (.invokevirtual 73, 3) := by decide +kernel
theorem dX8_setHeight_6 : decode cX8_setHeight 6 = .ok (.iload_n 2, 1) := by decide +kernel
theorem dX8_setHeight_7 : decode cX8_setHeight 7 = .ok (.i2l, 1) := by decide +kernel
theorem dX8_setHeight_8 : decode cX8_setHeight 8 = .ok (.lconst 0, 1) := by decide +kernel
theorem dX8_setHeight_9 : decode cX8_setHeight 9 = .ok (.ldc2_w 190, 3) := by decide +kernel
theorem dX8_setHeight_12 : decode cX8_setHeight 12 = .ok (.invokestatic 65, 3) := by decide +kernel
theorem dX8_setHeight_15 : decode cX8_setHeight 15 = .ok (.iconst 1, 1) := by decide +kernel
theorem dX8_setHeight_16 : decode cX8_setHeight 16 = .ok (.invokevirtual 183, 3) := by decide +kernel
theorem dX8_setHeight_19 : decode cX8_setHeight 19 = .ok (.ifCond .ne 5, 3) := by decide +kernel
theorem dX8_setHeight_22 : decode cX8_setHeight 22 = .ok (.iconst 0, 1) := by decide +kernel
theorem dX8_setHeight_23 : decode cX8_setHeight 23 = .ok (.ireturn, 1) := by decide +kernel
theorem dX8_setHeight_24 : decode cX8_setHeight 24 = .ok (.aload_n 0, 1) := by decide +kernel
theorem dX8_setHeight_25 : decode cX8_setHeight 25 = .ok (.invokevirtual 187, 3) := by decide +kernel
theorem dX8_setHeight_28 : decode cX8_setHeight 28 = .ok (.aload_n 0, 1) := by decide +kernel
theorem dX8_setHeight_29 : decode cX8_setHeight 29 = .ok (.invokevirtual 192, 3) := by decide +kernel
theorem dX8_setHeight_32 : decode cX8_setHeight 32 = .ok (.aload_n 0, 1) := by decide +kernel
theorem dX8_setHeight_33 : decode cX8_setHeight 33 = .ok (.iload_n 1, 1) := by decide +kernel
theorem dX8_setHeight_34 : decode cX8_setHeight 34 = .ok (.invokevirtual 87, 3) := by decide +kernel
theorem dX8_setHeight_37 : decode cX8_setHeight 37 = .ok (.istore_n 3, 1) := by decide +kernel
theorem dX8_setHeight_38 : decode cX8_setHeight 38 = .ok (.aload_n 0, 1) := by decide +kernel
theorem dX8_setHeight_39 : decode cX8_setHeight 39 = .ok (.getfield 7, 3) := by decide +kernel
theorem dX8_setHeight_42 : decode cX8_setHeight 42 = .ok (.bipush 8, 2) := by decide +kernel
theorem dX8_setHeight_44 : decode cX8_setHeight 44 = .ok (.iload_n 1, 1) := by decide +kernel
theorem dX8_setHeight_45 : decode cX8_setHeight 45 = .ok (.iadd, 1) := by decide +kernel
theorem dX8_setHeight_46 : decode cX8_setHeight 46 = .ok (.iload_n 2, 1) := by decide +kernel
theorem dX8_setHeight_47 : decode cX8_setHeight 47 = .ok (.i2l, 1) := by decide +kernel
theorem dX8_setHeight_48 : decode cX8_setHeight 48 = .ok (.lastore, 1) := by decide +kernel
theorem dX8_setHeight_49 : decode cX8_setHeight 49 = .ok (.aload_n 0, 1) := by decide +kernel
theorem dX8_setHeight_50 : decode cX8_setHeight 50 = .ok (.invokevirtual 195, 3) := by decide +kernel
theorem dX8_setHeight_53 : decode cX8_setHeight 53 = .ok (.iload_n 3, 1) := by decide +kernel
theorem dX8_setHeight_54 : decode cX8_setHeight 54 = .ok (.ireturn, 1) := by decide +kernel
theorem dX8_setDrain_0 : decode cX8_setDrain 0 = .ok (.aload_n 0, 1) := by decide +kernel
theorem dX8_setDrain_1 : decode cX8_setDrain 1 = .ok (.aload_n 0, 1) := by decide +kernel
theorem dX8_setDrain_2 : decode cX8_setDrain 2 = .ok (.iload_n 1, 1) := by decide +kernel
theorem dX8_setDrain_3 : decode cX8_setDrain 3 = .ok (.invokevirtual 73, 3) := by decide +kernel
theorem dX8_setDrain_6 : decode cX8_setDrain 6 = .ok (.iconst 1, 1) := by decide +kernel
theorem dX8_setDrain_7 : decode cX8_setDrain 7 = .ok (.iconst 1, 1) := by decide +kernel
theorem dX8_setDrain_8 : decode cX8_setDrain 8 = .ok (.invokevirtual 183, 3) := by decide +kernel
theorem dX8_setDrain_11 : decode cX8_setDrain 11 = .ok (.ifCond .ne 5, 3) := by decide +kernel
theorem dX8_setDrain_14 : decode cX8_setDrain 14 = .ok (.iconst 0, 1) := by decide +kernel
theorem dX8_setDrain_15 : decode cX8_setDrain 15 = .ok (.ireturn, 1) := by decide +kernel
theorem dX8_setDrain_16 : decode cX8_setDrain 16 = .ok (.aload_n 0, 1) := by decide +kernel
theorem dX8_setDrain_17 : decode cX8_setDrain 17 = .ok (.invokevirtual 187, 3) := by decide +kernel
theorem dX8_setDrain_20 : decode cX8_setDrain 20 = .ok (.aload_n 0, 1) := by decide +kernel
theorem dX8_setDrain_21 : decode cX8_setDrain 21 = .ok (.invokevirtual 192, 3) := by decide +kernel
theorem dX8_setDrain_24 : decode cX8_setDrain 24 = .ok (.aload_n 0, 1) := by decide +kernel
theorem dX8_setDrain_25 : decode cX8_setDrain 25 = .ok (.getfield 7, 3) := by decide +kernel
theorem dX8_setDrain_28 : decode cX8_setDrain 28 = .ok (.iconst 2, 1) := by decide +kernel
theorem dX8_setDrain_29 : decode cX8_setDrain 29 = .ok (.laload, 1) := by decide +kernel
theorem dX8_setDrain_30 : decode cX8_setDrain 30 = .ok (.iload_n 1, 1) := by decide +kernel
theorem dX8_setDrain_31 : decode cX8_setDrain 31 = .ok (.invokestatic 91, 3) := by decide +kernel
theorem dX8_setDrain_34 : decode cX8_setDrain 34 = .ok (.istore_n 3, 1) := by decide +kernel
theorem dX8_setDrain_35 : decode cX8_setDrain 35 = .ok (.aload_n 0, 1) := by decide +kernel
theorem dX8_setDrain_36 : decode cX8_setDrain 36 = .ok (.getfield 7, 3) := by decide +kernel
theorem dX8_setDrain_39 : decode cX8_setDrain 39 = .ok (.iconst 2, 1) := by decide +kernel
theorem dX8_setDrain_40 : decode cX8_setDrain 40 = .ok (.iload_n 2, 1) := by decide +kernel
theorem dX8_setDrain_41 : decode cX8_setDrain 41 = .ok (.ifCond .eq 16, 3) := by decide +kernel
theorem dX8_setDrain_44 : decode cX8_setDrain 44 = .ok (.aload_n 0, 1) := by decide +kernel
theorem dX8_setDrain_45 : decode cX8_setDrain 45 = .ok (.getfield 7, 3) := by decide +kernel
theorem dX8_setDrain_48 : decode cX8_setDrain 48 = .ok (.iconst 2, 1) := by decide +kernel
theorem dX8_setDrain_49 : decode cX8_setDrain 49 = .ok (.laload, 1) := by decide +kernel
theorem dX8_setDrain_50 : decode cX8_setDrain 50 = .ok (.lconst 1, 1) := by decide +kernel
theorem dX8_setDrain_51 : decode cX8_setDrain 51 = .ok (.iload_n 1, 1) := by decide +kernel
theorem dX8_setDrain_52 : decode cX8_setDrain 52 = .ok (.lshl, 1) := by decide +kernel
theorem dX8_setDrain_53 : decode cX8_setDrain 53 = .ok (.lor, 1) := by decide +kernel
theorem dX8_setDrain_54 : decode cX8_setDrain 54 = .ok (.goto 17, 3) := by decide +kernel
theorem dX8_setDrain_57 : decode cX8_setDrain 57 = .ok (.aload_n 0, 1) := by decide +kernel
theorem dX8_setDrain_58 : decode cX8_setDrain 58 = .ok (.getfield 7, 3) := by decide +kernel
theorem dX8_setDrain_61 : decode cX8_setDrain 61 = .ok (.iconst 2, 1) := by decide +kernel
theorem dX8_setDrain_62 : decode cX8_setDrain 62 = .ok (.laload, 1) := by decide +kernel
theorem dX8_setDrain_63 : decode cX8_setDrain 63 = .ok (.lconst 1, 1) := by decide +kernel
theorem dX8_setDrain_64 : decode cX8_setDrain 64 = .ok (.iload_n 1, 1) := by decide +kernel
theorem dX8_setDrain_65 : decode cX8_setDrain 65 = .ok (.lshl, 1) := by decide +kernel
theorem dX8_setDrain_66 : decode cX8_setDrain 66 = .ok (.ldc2_w 109, 3) := by decide +kernel
theorem dX8_setDrain_69 : decode cX8_setDrain 69 = .ok (.lxor, 1) := by decide +kernel
theorem dX8_setDrain_70 : decode cX8_setDrain 70 = .ok (.land, 1) := by decide +kernel
theorem dX8_setDrain_71 : decode cX8_setDrain 71 = .ok (.lastore, 1) := by decide +kernel
theorem dX8_setDrain_72 : decode cX8_setDrain 72 = .ok (.aload_n 0, 1) := by decide +kernel
theorem dX8_setDrain_73 : decode cX8_setDrain 73 = .ok (.invokevirtual 195, 3) := by decide +kernel
theorem dX8_setDrain_76 : decode cX8_setDrain 76 = .ok (.iload_n 3, 1) := by decide +kernel
theorem dX8_setDrain_77 : decode cX8_setDrain 77 = .ok (.ireturn, 1) := by decide +kernel
theorem dX8_setGate_0 : decode cX8_setGate 0 = .ok (.aload_n 0, 1) := by decide +kernel
theorem dX8_setGate_1 : decode cX8_setGate 1 = .ok (.aload_n 0, 1) := by decide +kernel
theorem dX8_setGate_2 : decode cX8_setGate 2 = .ok (.iload_n 1, 1) := by decide +kernel
theorem dX8_setGate_3 : decode cX8_setGate 3 = .ok (.iload_n 2, 1) := by decide +kernel
theorem dX8_setGate_4 : decode cX8_setGate 4 = .ok (.invokevirtual 198, 3) := by decide +kernel
theorem dX8_setGate_7 : decode cX8_setGate 7 = .ok (.iload_n 3, 1) := by decide +kernel
theorem dX8_setGate_8 : decode cX8_setGate 8 = .ok (.i2l, 1) := by decide +kernel
theorem dX8_setGate_9 : decode cX8_setGate 9 = .ok (.ldc2_w 109, 3) := by decide +kernel
theorem dX8_setGate_12 : decode cX8_setGate 12 = .ok (.ldc2_w 190, 3) := by decide +kernel
theorem dX8_setGate_15 : decode cX8_setGate 15 = .ok (.invokestatic 65, 3) := by decide +kernel
theorem dX8_setGate_18 : decode cX8_setGate 18 = .ok (.iconst 1, 1) := by decide +kernel
theorem dX8_setGate_19 : decode cX8_setGate 19 = .ok (.invokevirtual 183, 3) := by decide +kernel
theorem dX8_setGate_22 : decode cX8_setGate 22 = .ok (.ifCond .ne 5, 3) := by decide +kernel
theorem dX8_setGate_25 : decode cX8_setGate 25 = .ok (.iconst 0, 1) := by decide +kernel
theorem dX8_setGate_26 : decode cX8_setGate 26 = .ok (.ireturn, 1) := by decide +kernel
theorem dX8_setGate_27 : decode cX8_setGate 27 = .ok (.aload_n 0, 1) := by decide +kernel
theorem dX8_setGate_28 : decode cX8_setGate 28 = .ok (.invokevirtual 187, 3) := by decide +kernel
theorem dX8_setGate_31 : decode cX8_setGate 31 = .ok (.aload_n 0, 1) := by decide +kernel
theorem dX8_setGate_32 : decode cX8_setGate 32 = .ok (.invokevirtual 192, 3) := by decide +kernel
theorem dX8_setGate_35 : decode cX8_setGate 35 = .ok (.aload_n 0, 1) := by decide +kernel
theorem dX8_setGate_36 : decode cX8_setGate 36 = .ok (.getfield 7, 3) := by decide +kernel
theorem dX8_setGate_39 : decode cX8_setGate 39 = .ok (.aload_n 0, 1) := by decide +kernel
theorem dX8_setGate_40 : decode cX8_setGate 40 = .ok (.iload_n 1, 1) := by decide +kernel
theorem dX8_setGate_41 : decode cX8_setGate 41 = .ok (.iload_n 2, 1) := by decide +kernel
theorem dX8_setGate_42 : decode cX8_setGate 42 = .ok (.invokevirtual 81, 3) := by decide +kernel
theorem dX8_setGate_45 : decode cX8_setGate 45 = .ok (.laload, 1) := by decide +kernel
theorem dX8_setGate_46 : decode cX8_setGate 46 = .ok (.l2i, 1) := by decide +kernel
theorem dX8_setGate_47 : decode cX8_setGate 47 = .ok (.istore 4, 2) := by decide +kernel
theorem dX8_setGate_49 : decode cX8_setGate 49 = .ok (.aload_n 0, 1) := by decide +kernel
theorem dX8_setGate_50 : decode cX8_setGate 50 = .ok (.getfield 7, 3) := by decide +kernel
theorem dX8_setGate_53 : decode cX8_setGate 53 = .ok (.aload_n 0, 1) := by decide +kernel
theorem dX8_setGate_54 : decode cX8_setGate 54 = .ok (.iload_n 1, 1) := by decide +kernel
theorem dX8_setGate_55 : decode cX8_setGate 55 = .ok (.iload_n 2, 1) := by decide +kernel
theorem dX8_setGate_56 : decode cX8_setGate 56 = .ok (.invokevirtual 81, 3) := by decide +kernel
theorem dX8_setGate_59 : decode cX8_setGate 59 = .ok (.iload_n 3, 1) := by decide +kernel
theorem dX8_setGate_60 : decode cX8_setGate 60 = .ok (.i2l, 1) := by decide +kernel
theorem dX8_setGate_61 : decode cX8_setGate 61 = .ok (.lastore, 1) := by decide +kernel
theorem dX8_setGate_62 : decode cX8_setGate 62 = .ok (.aload_n 0, 1) := by decide +kernel
theorem dX8_setGate_63 : decode cX8_setGate 63 = .ok (.invokevirtual 195, 3) := by decide +kernel
theorem dX8_setGate_66 : decode cX8_setGate 66 = .ok (.iload 4, 2) := by decide +kernel
theorem dX8_setGate_68 : decode cX8_setGate 68 = .ok (.ireturn, 1) := by decide +kernel
theorem dX8_random_0 : decode cX8_random 0 = .ok (.aload_n 0, 1) := by decide +kernel
theorem dX8_random_1 : decode cX8_random 1 = .ok (.iload_n 1, 1) := by decide +kernel
theorem dX8_random_2 : decode cX8_random 2 = .ok (.i2l, 1) := by decide +kernel
theorem dX8_random_3 : decode cX8_random 3 = .ok (.lconst 0, 1) := by decide +kernel
theorem dX8_random_4 : decode cX8_random 4 = .ok (.ldc2_w 201, 3) := by decide +kernel
theorem dX8_random_7 : decode cX8_random 7 = .ok (.invokestatic 65, 3) := by decide +kernel
theorem dX8_random_10 : decode cX8_random 10 = .ok (.ifCond .eq 19, 3) := by decide +kernel
theorem dX8_random_13 : decode cX8_random 13 = .ok (.iload_n 2, 1) := by decide +kernel
theorem dX8_random_14 : decode cX8_random 14 = .ok (.i2l, 1) := by decide +kernel
theorem dX8_random_15 : decode cX8_random 15 = .ok (.lconst 0, 1) := by decide +kernel
theorem dX8_random_16 : decode cX8_random 16 = .ok (.ldc2_w 190, 3) := by decide +kernel
theorem dX8_random_19 : decode cX8_random 19 = .ok (.invokestatic 65, 3) := by decide +kernel
theorem dX8_random_22 : decode cX8_random 22 = .ok (.ifCond .eq 7, 3) := by decide +kernel
theorem dX8_random_25 : decode cX8_random 25 = .ok (.iconst 1, 1) := by decide +kernel
theorem dX8_random_26 : decode cX8_random 26 = .ok (.goto 4, 3) := by decide +kernel
theorem dX8_random_29 : decode cX8_random 29 = .ok (.iconst 0, 1) := by decide +kernel
theorem dX8_random_30 : decode cX8_random 30 = .ok (.iconst 1, 1) := by decide +kernel
theorem dX8_random_31 : decode cX8_random 31 = .ok (.iconst 1, 1) := by decide +kernel
theorem dX8_random_32 : decode cX8_random 32 = .ok (.invokevirtual 183, 3) := by decide +kernel
theorem dX8_random_35 : decode cX8_random 35 = .ok (.ifCond .ne 5, 3) := by decide +kernel
theorem dX8_random_38 : decode cX8_random 38 = .ok (.iconst 0, 1) := by decide +kernel
theorem dX8_random_39 : decode cX8_random 39 = .ok (.ireturn, 1) := by decide +kernel
theorem dX8_random_40 : decode cX8_random 40 = .ok (.aload_n 0, 1) := by decide +kernel
theorem dX8_random_41 : decode cX8_random 41 = .ok (.invokevirtual 187, 3) := by decide +kernel
theorem dX8_random_44 : decode cX8_random 44 = .ok (.aload_n 0, 1) := by decide +kernel
theorem dX8_random_45 : decode cX8_random 45 = .ok (.invokevirtual 192, 3) := by decide +kernel
theorem dX8_random_48 : decode cX8_random 48 = .ok (.iload_n 1, 1) := by decide +kernel
theorem dX8_random_49 : decode cX8_random 49 = .ok (.i2l, 1) := by decide +kernel
theorem dX8_random_50 : decode cX8_random 50 = .ok (.lstore_n 3, 1) := by decide +kernel
theorem dX8_random_51 : decode cX8_random 51 = .ok (.iconst 0, 1) := by decide +kernel
theorem dX8_random_52 : decode cX8_random 52 = .ok (.istore 5, 2) := by decide +kernel
theorem dX8_random_54 : decode cX8_random 54 = .ok (.iload 5, 2) := by decide +kernel
theorem dX8_random_56 : decode cX8_random 56 = .ok (.aload_n 0, 1) := by decide +kernel
theorem dX8_random_57 : decode cX8_random 57 = .ok (.invokevirtual 61, 3) := by decide +kernel
theorem dX8_random_60 : decode cX8_random 60 = .ok (.if_icmp .ge 43, 3) := by decide +kernel
theorem dX8_random_63 : decode cX8_random 63 = .ok (.ldc2_w 203, 3) := by decide +kernel
theorem dX8_random_66 : decode cX8_random 66 = .ok (.lload_n 3, 1) := by decide +kernel
theorem dX8_random_67 : decode cX8_random 67 = .ok (.lmul, 1) := by decide +kernel
theorem dX8_random_68 : decode cX8_random 68 = .ok (.ldc2_w 205, 3) := by decide +kernel
theorem dX8_random_71 : decode cX8_random 71 = .ok (.ladd, 1) := by decide +kernel
theorem dX8_random_72 : decode cX8_random 72 = .ok (.ldc2_w 207, 3) := by decide +kernel
theorem dX8_random_75 : decode cX8_random 75 = .ok (.lrem, 1) := by decide +kernel
theorem dX8_random_76 : decode cX8_random 76 = .ok (.lstore_n 3, 1) := by decide +kernel
theorem dX8_random_77 : decode cX8_random 77 = .ok (.aload_n 0, 1) := by decide +kernel
theorem dX8_random_78 : decode cX8_random 78 = .ok (.getfield 7, 3) := by decide +kernel
theorem dX8_random_81 : decode cX8_random 81 = .ok (.bipush 8, 2) := by decide +kernel
theorem dX8_random_83 : decode cX8_random 83 = .ok (.iload 5, 2) := by decide +kernel
theorem dX8_random_85 : decode cX8_random 85 = .ok (.iadd, 1) := by decide +kernel
theorem dX8_random_86 : decode cX8_random 86 = .ok (.lload_n 3, 1) := by decide +kernel
theorem dX8_random_87 : decode cX8_random 87 = .ok (.ldc2_w 209, 3) := by decide +kernel
theorem dX8_random_90 : decode cX8_random 90 = .ok (.ldiv, 1) := by decide +kernel
theorem dX8_random_91 : decode cX8_random 91 = .ok (.iload_n 2, 1) := by decide +kernel
theorem dX8_random_92 : decode cX8_random 92 = .ok (.i2l, 1) := by decide +kernel
theorem dX8_random_93 : decode cX8_random 93 = .ok (.lconst 1, 1) := by decide +kernel
theorem dX8_random_94 : decode cX8_random 94 = .ok (.ladd, 1) := by decide +kernel
theorem dX8_random_95 : decode cX8_random 95 = .ok (.lrem, 1) := by decide +kernel
theorem dX8_random_96 : decode cX8_random 96 = .ok (.lastore, 1) := by decide +kernel
theorem dX8_random_97 : decode cX8_random 97 = .ok (.iinc 5 1, 3) := by decide +kernel
theorem dX8_random_100 : decode cX8_random 100 = .ok (.goto (-46), 3) := by decide +kernel
theorem dX8_random_103 : decode cX8_random 103 = .ok (.aload_n 0, 1) := by decide +kernel
theorem dX8_random_104 : decode cX8_random 104 = .ok (.invokevirtual 195, 3) := by decide +kernel
theorem dX8_random_107 : decode cX8_random 107 = .ok (.aload_n 0, 1) := by decide +kernel
theorem dX8_random_108 : decode cX8_random 108 = .ok (.getfield 7, 3) := by decide +kernel
theorem dX8_random_111 : decode cX8_random 111 = .ok (.bipush 6, 2) := by decide +kernel
theorem dX8_random_113 : decode cX8_random 113 = .ok (.laload, 1) := by decide +kernel
theorem dX8_random_114 : decode cX8_random 114 = .ok (.l2i, 1) := by decide +kernel
theorem dX8_random_115 : decode cX8_random 115 = .ok (.ireturn, 1) := by decide +kernel
