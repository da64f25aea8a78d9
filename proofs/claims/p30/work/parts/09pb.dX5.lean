theorem dX5_init_0 : decode cX5_init 0 = .ok (.aload_n 0, 1) := by decide +kernel
theorem dX5_init_1 : decode cX5_init 1 = .ok (.invokespecial 3, 3) := by decide +kernel
theorem dX5_init_4 : decode cX5_init 4 = .ok (.aload_n 0, 1) := by decide +kernel
theorem dX5_init_5 : decode cX5_init 5 = .ok (.new 9, 3) := by decide +kernel
theorem dX5_init_8 : decode cX5_init 8 = .ok (.dup, 1) := by decide +kernel
theorem dX5_init_9 : decode cX5_init 9 = .ok (.bipush 36, 2) := by decide +kernel
theorem dX5_init_11 : decode cX5_init 11 = .ok (.invokespecial 11, 3) := by decide +kernel
theorem dX5_init_14 : decode cX5_init 14 = .ok (.putfield 14, 3) := by decide +kernel
theorem dX5_init_17 : decode cX5_init 17 = .ok (.aload_n 0, 1) := by decide +kernel
theorem dX5_init_18 : decode cX5_init 18 = .ok (.new 20, 3) := by decide +kernel
theorem dX5_init_21 : decode cX5_init 21 = .ok (.dup, 1) := by decide +kernel
theorem dX5_init_22 : decode cX5_init 22 = .ok (.bipush 36, 2) := by decide +kernel
theorem dX5_init_24 : decode cX5_init 24 = .ok (.invokespecial 22, 3) := by decide +kernel
theorem dX5_init_27 : decode cX5_init 27 = .ok (.putfield 23, 3) := by decide +kernel
theorem dX5_init_30 : decode cX5_init 30 = .ok (.aload_n 0, 1) := by decide +kernel
theorem dX5_init_31 : decode cX5_init 31 = .ok (.new 20, 3) := by decide +kernel
theorem dX5_init_34 : decode cX5_init 34 = .ok (.dup, 1) := by decide +kernel
theorem dX5_init_35 : decode cX5_init 35 = .ok (.bipush 36, 2) := by decide +kernel
theorem dX5_init_37 : decode cX5_init 37 = .ok (.invokespecial 22, 3) := by decide +kernel
theorem dX5_init_40 : decode cX5_init 40 = .ok (.putfield 27, 3) := by decide +kernel
theorem dX5_init_43 : decode cX5_init 43 = .ok (.return_, 1) := by decide +kernel
theorem dX5_copyFrom_0 : decode cX5_copyFrom 0 = .ok (.aload_n 0, 1) := by decide +kernel
theorem dX5_copyFrom_1 : decode cX5_copyFrom 1 = .ok (.aload_n 1, 1) := by decide +kernel
theorem dX5_copyFrom_2 : decode cX5_copyFrom 2 = .ok (.getfield 30, 3) := by decide +kernel
theorem dX5_copyFrom_5 : decode cX5_copyFrom 5 = .ok (.putfield 30, 3) := by decide +kernel
theorem dX5_copyFrom_8 : decode cX5_copyFrom 8 = .ok (.aload_n 0, 1) := by decide +kernel
theorem dX5_copyFrom_9 : decode cX5_copyFrom 9 = .ok (.getfield 14, 3) := by decide +kernel
theorem dX5_copyFrom_12 : decode cX5_copyFrom 12 = .ok (.aload_n 1, 1) := by decide +kernel
theorem dX5_copyFrom_13 : decode cX5_copyFrom 13 = .ok (.getfield 14, 3) := by decide +kernel
theorem dX5_copyFrom_16 : decode cX5_copyFrom 16 = .ok (.invokevirtual 34, 3) := by decide +kernel
theorem dX5_copyFrom_19 : decode cX5_copyFrom 19 = .ok (.aload_n 0, 1) := by decide +kernel
theorem dX5_copyFrom_20 : decode cX5_copyFrom 20 = .ok (.getfield 23, 3) := by decide +kernel
theorem dX5_copyFrom_23 : decode cX5_copyFrom 23 = .ok (.aload_n 1, 1) := by decide +kernel
theorem dX5_copyFrom_24 : decode cX5_copyFrom 24 = .ok (.getfield 23, 3) := by decide +kernel
theorem dX5_copyFrom_27 : decode cX5_copyFrom 27 = .ok (.invokevirtual 38, 3) := by decide +kernel
theorem dX5_copyFrom_30 : decode cX5_copyFrom 30 = .ok (.aload_n 0, 1) := by decide +kernel
theorem dX5_copyFrom_31 : decode cX5_copyFrom 31 = .ok (.getfield 27, 3) := by decide +kernel
theorem dX5_copyFrom_34 : decode cX5_copyFrom 34 = .ok (.aload_n 1, 1) := by decide +kernel
theorem dX5_copyFrom_35 : decode cX5_copyFrom 35 = .ok (.getfield 27, 3) := by decide +kernel
theorem dX5_copyFrom_38 : decode cX5_copyFrom 38 = .ok (.invokevirtual 38, 3) := by decide +kernel
theorem dX5_copyFrom_41 : decode cX5_copyFrom 41 = .ok (.return_, 1) := by decide +kernel
theorem dX5_find_0 : decode cX5_find 0 = .ok (.aload_n 0, 1) := by decide +kernel
theorem dX5_find_1 : decode cX5_find 1 = .ok (.getfield 14, 3) := by decide +kernel
theorem dX5_find_4 : decode cX5_find 4 = .ok (.lconst 0, 1) := by decide +kernel
theorem dX5_find_5 : decode cX5_find 5 = .ok (.invokevirtual 41, 3) := by decide +kernel
theorem dX5_find_8 : decode cX5_find 8 = .ok (.iconst 0, 1) := by decide +kernel
theorem dX5_find_9 : decode cX5_find 9 = .ok (.istore_n 2, 1) := by decide +kernel
theorem dX5_find_10 : decode cX5_find 10 = .ok (.iload_n 2, 1) := by decide +kernel
theorem dX5_find_11 : decode cX5_find 11 = .ok (.aload_n 1, 1) := by decide +kernel
theorem dX5_find_12 : decode cX5_find 12 = .ok (.getfield 45, 3) := by decide +kernel
theorem dX5_find_15 : decode cX5_find 15 = .ok (.if_icmp .ge 38, 3) := by decide +kernel
theorem dX5_find_18 : decode cX5_find 18 = .ok (.aload_n 0, 1) := by decide +kernel
theorem dX5_find_19 : decode cX5_find 19 = .ok (.getfield 14, 3) := by decide +kernel
theorem dX5_find_22 : decode cX5_find 22 = .ok (.iload_n 2, 1) := by decide +kernel
theorem dX5_find_23 : decode cX5_find 23 = .ok (.invokevirtual 50, 3) := by decide +kernel
theorem dX5_find_26 : decode cX5_find 26 = .ok (.lconst 0, 1) := by decide +kernel
theorem dX5_find_27 : decode cX5_find 27 = .ok (.lcmp, 1) := by decide +kernel
theorem dX5_find_28 : decode cX5_find 28 = .ok (.ifCond .ne 19, 3) := by decide +kernel
theorem dX5_find_31 : decode cX5_find 31 = .ok (.aload_n 1, 1) := by decide +kernel
theorem dX5_find_32 : decode cX5_find 32 = .ok (.iload_n 2, 1) := by decide +kernel
theorem dX5_find_33 : decode cX5_find 33 = .ok (.invokestatic 54, 3) := by decide +kernel
theorem dX5_find_36 : decode cX5_find 36 = .ok (.lstore_n 3, 1) := by decide +kernel
theorem dX5_find_37 : decode cX5_find 37 = .ok (.aload_n 0, 1) := by decide +kernel
theorem dX5_find_38 : decode cX5_find 38 = .ok (.lload_n 3, 1) := by decide +kernel
theorem dX5_find_39 : decode cX5_find 39 = .ok (.aload_n 1, 1) := by decide +kernel
theorem dX5_find_40 : decode cX5_find 40 = .ok (.lload_n 3, 1) := by decide +kernel
theorem dX5_find_41 : decode cX5_find 41 = .ok (.invokestatic 58, 3) := by decide +kernel
theorem dX5_find_44 : decode cX5_find 44 = .ok (.invokevirtual 62, 3) := by decide +kernel
theorem dX5_find_47 : decode cX5_find 47 = .ok (.iinc 2 1, 3) := by decide +kernel
theorem dX5_find_50 : decode cX5_find 50 = .ok (.goto (-40), 3) := by decide +kernel
theorem dX5_find_53 : decode cX5_find 53 = .ok (.aload_n 0, 1) := by decide +kernel
theorem dX5_find_54 : decode cX5_find 54 = .ok (.aload_n 1, 1) := by decide +kernel
theorem dX5_find_55 : decode cX5_find 55 = .ok (.invokevirtual 66, 3) := by decide +kernel
theorem dX5_find_58 : decode cX5_find 58 = .ok (.iconst 0, 1) := by decide +kernel
theorem dX5_find_59 : decode cX5_find 59 = .ok (.istore_n 2, 1) := by decide +kernel
theorem dX5_find_60 : decode cX5_find 60 = .ok (.iload_n 2, 1) := by decide +kernel
theorem dX5_find_61 : decode cX5_find 61 = .ok (.aload_n 1, 1) := by decide +kernel
theorem dX5_find_62 : decode cX5_find 62 = .ok (.getfield 45, 3) := by decide +kernel
theorem dX5_find_65 : decode cX5_find 65 = .ok (.if_icmp .ge 29, 3) := by decide +kernel
theorem dX5_find_68 : decode cX5_find 68 = .ok (.aload_n 0, 1) := by decide +kernel
theorem dX5_find_69 : decode cX5_find 69 = .ok (.getfield 27, 3) := by decide +kernel
theorem dX5_find_72 : decode cX5_find 72 = .ok (.iload_n 2, 1) := by decide +kernel
theorem dX5_find_73 : decode cX5_find 73 = .ok (.aload_n 0, 1) := by decide +kernel
theorem dX5_find_74 : decode cX5_find 74 = .ok (.getfield 27, 3) := by decide +kernel
theorem dX5_find_77 : decode cX5_find 77 = .ok (.aload_n 0, 1) := by decide +kernel
theorem dX5_find_78 : decode cX5_find 78 = .ok (.iload_n 2, 1) := by decide +kernel
theorem dX5_find_79 : decode cX5_find 79 = .ok (.invokevirtual 70, 3) := by decide +kernel
theorem dX5_find_82 : decode cX5_find 82 = .ok (.invokevirtual 74, 3) := by decide +kernel
theorem dX5_find_85 : decode cX5_find 85 = .ok (.invokevirtual 76, 3) := by decide +kernel
theorem dX5_find_88 : decode cX5_find 88 = .ok (.iinc 2 1, 3) := by decide +kernel
theorem dX5_find_91 : decode cX5_find 91 = .ok (.goto (-31), 3) := by decide +kernel
theorem dX5_find_94 : decode cX5_find 94 = .ok (.return_, 1) := by decide +kernel
theorem dX5_plainAround_0 : decode cX5_plainAround 0 = .ok (.iload_n 1, 1) := by decide +kernel
theorem dX5_plainAround_1 : decode cX5_plainAround 1 = .ok (.invokestatic 80, 3) := by decide +kernel
theorem dX5_plainAround_4 : decode cX5_plainAround 4 = .ok (.lstore_n 2, 1) := by decide +kernel
theorem dX5_plainAround_5 : decode cX5_plainAround 5 = .ok (.lload_n 2, 1) := by decide +kernel
theorem dX5_plainAround_6 : decode cX5_plainAround 6 = .ok (.lstore 4, 2) := by decide +kernel
theorem dX5_plainAround_8 : decode cX5_plainAround 8 = .ok (.iconst 0, 1) := by decide +kernel
theorem dX5_plainAround_9 : decode cX5_plainAround 9 = .ok (.istore 6, 2) := by decide +kernel
theorem dX5_plainAround_11 : decode cX5_plainAround 11 = .ok (.iload 6, 2) := by decide +kernel
theorem dX5_plainAround_13 : decode cX5_plainAround 13 = .ok (.bipush 36, 2) := by decide +kernel
theorem dX5_plainAround_15 : decode cX5_plainAround 15 = .ok (.if_icmp .ge 137, 3) := by decide +kernel
theorem dX5_plainAround_18 : decode cX5_plainAround 18 = .ok (.lload 4, 2) := by decide +kernel
theorem dX5_plainAround_20 : decode cX5_plainAround 20 = .ok (.lconst 0, 1) := by decide +kernel
theorem dX5_plainAround_21 : decode cX5_plainAround 21 = .ok (.lcmp, 1) := by decide +kernel
theorem dX5_plainAround_22 : decode cX5_plainAround 22 = .ok (.ifCond .eq 130, 3) := by decide +kernel
theorem dX5_plainAround_25 : decode cX5_plainAround 25 = .ok (.lload 4, 2) := by decide +kernel
theorem dX5_plainAround_27 : decode cX5_plainAround 27 = .ok (.invokestatic 83, 3) := by decide +kernel
theorem dX5_plainAround_30 : decode cX5_plainAround 30 = .ok (.istore 7, 2) := by decide +kernel
theorem dX5_plainAround_32 : decode cX5_plainAround 32 = .ok (.aload_n 0, 1) := by decide +kernel
theorem dX5_plainAround_33 : decode cX5_plainAround 33 = .ok (.getfield 87, 3) := by decide +kernel
theorem dX5_plainAround_36 : decode cX5_plainAround 36 = .ok (.iload 7, 2) := by decide +kernel
theorem dX5_plainAround_38 : decode cX5_plainAround 38 = .ok (.invokevirtual 74, 3) := by decide +kernel
theorem dX5_plainAround_41 : decode cX5_plainAround 41 = .ok (.istore 8, 2) := by decide +kernel
theorem dX5_plainAround_43 : decode cX5_plainAround 43 = .ok (.lload 4, 2) := by decide +kernel
theorem dX5_plainAround_45 : decode cX5_plainAround 45 = .ok (.iload 7, 2) := by decide +kernel
theorem dX5_plainAround_47 : decode cX5_plainAround 47 = .ok (.invokestatic 80, 3) := by decide +kernel
theorem dX5_plainAround_50 : decode cX5_plainAround 50 = .ok (.ldc2_w 90, 3) := by decide +kernel
theorem dX5_plainAround_53 : decode cX5_plainAround 53 = .ok (.lxor, 1) := by decide +kernel
theorem dX5_plainAround_54 : decode cX5_plainAround 54 = .ok (.land, 1) := by decide +kernel
theorem dX5_plainAround_55 : decode cX5_plainAround 55 = .ok (.lstore 4, 2) := by decide +kernel
theorem dX5_plainAround_57 : decode cX5_plainAround 57 = .ok (.iconst 4, 1) := by decide +kernel
theorem dX5_plainAround_58 : decode cX5_plainAround 58 = .ok (.iload 7, 2) := by decide +kernel
theorem dX5_plainAround_60 : decode cX5_plainAround 60 = .ok (.imul, 1) := by decide +kernel
theorem dX5_plainAround_61 : decode cX5_plainAround 61 = .ok (.istore 9, 2) := by decide +kernel
theorem dX5_plainAround_63 : decode cX5_plainAround 63 = .ok (.iload 9, 2) := by decide +kernel
theorem dX5_plainAround_65 : decode cX5_plainAround 65 = .ok (.iconst 4, 1) := by decide +kernel
theorem dX5_plainAround_66 : decode cX5_plainAround 66 = .ok (.iload 7, 2) := by decide +kernel
theorem dX5_plainAround_68 : decode cX5_plainAround 68 = .ok (.imul, 1) := by decide +kernel
theorem dX5_plainAround_69 : decode cX5_plainAround 69 = .ok (.iconst 4, 1) := by decide +kernel
theorem dX5_plainAround_70 : decode cX5_plainAround 70 = .ok (.iadd, 1) := by decide +kernel
theorem dX5_plainAround_71 : decode cX5_plainAround 71 = .ok (.if_icmp .ge 75, 3) := by decide +kernel
theorem dX5_plainAround_74 : decode cX5_plainAround 74 = .ok (.aload_n 0, 1) := by decide +kernel
theorem dX5_plainAround_75 : decode cX5_plainAround 75 = .ok (.getfield 92, 3) := by decide +kernel
theorem dX5_plainAround_78 : decode cX5_plainAround 78 = .ok (.iload 9, 2) := by decide +kernel
theorem dX5_plainAround_80 : decode cX5_plainAround 80 = .ok (.invokevirtual 74, 3) := by decide +kernel
theorem dX5_plainAround_83 : decode cX5_plainAround 83 = .ok (.istore 10, 2) := by decide +kernel
theorem dX5_plainAround_85 : decode cX5_plainAround 85 = .ok (.aload_n 0, 1) := by decide +kernel
theorem dX5_plainAround_86 : decode cX5_plainAround 86 = .ok (.getfield 95, 3) := by decide +kernel
theorem dX5_plainAround_89 : decode cX5_plainAround 89 = .ok (.iload 9, 2) := by decide +kernel
theorem dX5_plainAround_91 : decode cX5_plainAround 91 = .ok (.invokevirtual 74, 3) := by decide +kernel
theorem dX5_plainAround_94 : decode cX5_plainAround 94 = .ok (.iload 8, 2) := by decide +kernel
theorem dX5_plainAround_96 : decode cX5_plainAround 96 = .ok (.if_icmp .ne 44, 3) := by decide +kernel
theorem dX5_plainAround_99 : decode cX5_plainAround 99 = .ok (.aload_n 0, 1) := by decide +kernel
theorem dX5_plainAround_100 : decode cX5_plainAround 100 = .ok (.getfield 87, 3) := by decide +kernel
theorem dX5_plainAround_103 : decode cX5_plainAround 103 = .ok (.iload 10, 2) := by decide +kernel
theorem dX5_plainAround_105 : decode cX5_plainAround 105 = .ok (.invokevirtual 74, 3) := by decide +kernel
theorem dX5_plainAround_108 : decode cX5_plainAround 108 = .ok (.iload 8, 2) := by decide +kernel
theorem dX5_plainAround_110 : decode cX5_plainAround 110 = .ok (.if_icmp .ne 30, 3) := by decide +kernel
theorem dX5_plainAround_113 : decode cX5_plainAround 113 = .ok (.lload_n 2, 1) := by decide +kernel
theorem dX5_plainAround_114 : decode cX5_plainAround 114 = .ok (.iload 10, 2) := by decide +kernel
theorem dX5_plainAround_116 : decode cX5_plainAround 116 = .ok (.invokestatic 98, 3) := by decide +kernel
theorem dX5_plainAround_119 : decode cX5_plainAround 119 = .ok (.ifCond .ne 21, 3) := by decide +kernel
theorem dX5_plainAround_122 : decode cX5_plainAround 122 = .ok (.lload_n 2, 1) := by decide +kernel
theorem dX5_plainAround_123 : decode cX5_plainAround 123 = .ok (.iload 10, 2) := by decide +kernel
theorem dX5_plainAround_125 : decode cX5_plainAround 125 = .ok (.invokestatic 80, 3) := by decide +kernel
theorem dX5_plainAround_128 : decode cX5_plainAround 128 = .ok (.lor, 1) := by decide +kernel
theorem dX5_plainAround_129 : decode cX5_plainAround 129 = .ok (.lstore_n 2, 1) := by decide +kernel
theorem dX5_plainAround_130 : decode cX5_plainAround 130 = .ok (.lload 4, 2) := by decide +kernel
theorem dX5_plainAround_132 : decode cX5_plainAround 132 = .ok (.iload 10, 2) := by decide +kernel
theorem dX5_plainAround_134 : decode cX5_plainAround 134 = .ok (.invokestatic 80, 3) := by decide +kernel
theorem dX5_plainAround_137 : decode cX5_plainAround 137 = .ok (.lor, 1) := by decide +kernel
theorem dX5_plainAround_138 : decode cX5_plainAround 138 = .ok (.lstore 4, 2) := by decide +kernel
theorem dX5_plainAround_140 : decode cX5_plainAround 140 = .ok (.iinc 9 1, 3) := by decide +kernel
theorem dX5_plainAround_143 : decode cX5_plainAround 143 = .ok (.goto (-80), 3) := by decide +kernel
theorem dX5_plainAround_146 : decode cX5_plainAround 146 = .ok (.iinc 6 1, 3) := by decide +kernel
theorem dX5_plainAround_149 : decode cX5_plainAround 149 = .ok (.goto (-138), 3) := by decide +kernel
theorem dX5_plainAround_152 : decode cX5_plainAround 152 = .ok (.lload_n 2, 1) := by decide +kernel
theorem dX5_plainAround_153 : decode cX5_plainAround 153 = .ok (.lreturn, 1) := by decide +kernel
theorem dX5_markPlain_0 : decode cX5_markPlain 0 = .ok (.iconst 0, 1) := by decide +kernel
theorem dX5_markPlain_1 : decode cX5_markPlain 1 = .ok (.istore 4, 2) := by decide +kernel
theorem dX5_markPlain_3 : decode cX5_markPlain 3 = .ok (.iload 4, 2) := by decide +kernel
theorem dX5_markPlain_5 : decode cX5_markPlain 5 = .ok (.bipush 36, 2) := by decide +kernel
theorem dX5_markPlain_7 : decode cX5_markPlain 7 = .ok (.if_icmp .ge 38, 3) := by decide +kernel
theorem dX5_markPlain_10 : decode cX5_markPlain 10 = .ok (.lload_n 1, 1) := by decide +kernel
theorem dX5_markPlain_11 : decode cX5_markPlain 11 = .ok (.iload 4, 2) := by decide +kernel
theorem dX5_markPlain_13 : decode cX5_markPlain 13 = .ok (.invokestatic 98, 3) := by decide +kernel
theorem dX5_markPlain_16 : decode cX5_markPlain 16 = .ok (.ifCond .eq 23, 3) := by decide +kernel
theorem dX5_markPlain_19 : decode cX5_markPlain 19 = .ok (.aload_n 0, 1) := by decide +kernel
theorem dX5_markPlain_20 : decode cX5_markPlain 20 = .ok (.getfield 14, 3) := by decide +kernel
theorem dX5_markPlain_23 : decode cX5_markPlain 23 = .ok (.iload 4, 2) := by decide +kernel
theorem dX5_markPlain_25 : decode cX5_markPlain 25 = .ok (.lload_n 1, 1) := by decide +kernel
theorem dX5_markPlain_26 : decode cX5_markPlain 26 = .ok (.invokevirtual 102, 3) := by decide +kernel
theorem dX5_markPlain_29 : decode cX5_markPlain 29 = .ok (.aload_n 0, 1) := by decide +kernel
theorem dX5_markPlain_30 : decode cX5_markPlain 30 = .ok (.getfield 23, 3) := by decide +kernel
theorem dX5_markPlain_33 : decode cX5_markPlain 33 = .ok (.iload 4, 2) := by decide +kernel
theorem dX5_markPlain_35 : decode cX5_markPlain 35 = .ok (.iload_n 3, 1) := by decide +kernel
theorem dX5_markPlain_36 : decode cX5_markPlain 36 = .ok (.invokevirtual 76, 3) := by decide +kernel
theorem dX5_markPlain_39 : decode cX5_markPlain 39 = .ok (.iinc 4 1, 3) := by decide +kernel
theorem dX5_markPlain_42 : decode cX5_markPlain 42 = .ok (.goto (-39), 3) := by decide +kernel
theorem dX5_markPlain_45 : decode cX5_markPlain 45 = .ok (.return_, 1) := by decide +kernel
theorem dX5_targetOf_0 : decode cX5_targetOf 0 = .ok (.lload_n 1, 1) := by decide +kernel
theorem dX5_targetOf_1 : decode cX5_targetOf 1 = .ok (.aload_n 0, 1) := by decide +kernel
theorem dX5_targetOf_2 : decode cX5_targetOf 2 = .ok (.getfield 105, 3) := by decide +kernel
theorem dX5_targetOf_5 : decode cX5_targetOf 5 = .ok (.land, 1) := by decide +kernel
theorem dX5_targetOf_6 : decode cX5_targetOf 6 = .ok (.lconst 0, 1) := by decide +kernel
theorem dX5_targetOf_7 : decode cX5_targetOf 7 = .ok (.lcmp, 1) := by decide +kernel
theorem dX5_targetOf_8 : decode cX5_targetOf 8 = .ok (.ifCond .eq 5, 3) := by decide +kernel
theorem dX5_targetOf_11 : decode cX5_targetOf 11 = .ok (.iconst (-1), 1) := by decide +kernel
theorem dX5_targetOf_12 : decode cX5_targetOf 12 = .ok (.ireturn, 1) := by decide +kernel
theorem dX5_targetOf_13 : decode cX5_targetOf 13 = .ok (.iconst (-1), 1) := by decide +kernel
theorem dX5_targetOf_14 : decode cX5_targetOf 14 = .ok (.istore_n 3, 1) := by decide +kernel
theorem dX5_targetOf_15 : decode cX5_targetOf 15 = .ok (.iconst 0, 1) := by decide +kernel
theorem dX5_targetOf_16 : decode cX5_targetOf 16 = .ok (.istore 4, 2) := by decide +kernel
theorem dX5_targetOf_18 : decode cX5_targetOf 18 = .ok (.iload 4, 2) := by decide +kernel
theorem dX5_targetOf_20 : decode cX5_targetOf 20 = .ok (.aload_n 0, 1) := by decide +kernel
theorem dX5_targetOf_21 : decode cX5_targetOf 21 = .ok (.getfield 45, 3) := by decide +kernel
theorem dX5_targetOf_24 : decode cX5_targetOf 24 = .ok (.if_icmp .ge 30, 3) := by decide +kernel
theorem dX5_targetOf_27 : decode cX5_targetOf 27 = .ok (.iload_n 3, 1) := by decide +kernel
theorem dX5_targetOf_28 : decode cX5_targetOf 28 = .ok (.iconst (-1), 1) := by decide +kernel
theorem dX5_targetOf_29 : decode cX5_targetOf 29 = .ok (.if_icmp .ne 25, 3) := by decide +kernel
theorem dX5_targetOf_32 : decode cX5_targetOf 32 = .ok (.lload_n 1, 1) := by decide +kernel
theorem dX5_targetOf_33 : decode cX5_targetOf 33 = .ok (.iload 4, 2) := by decide +kernel
theorem dX5_targetOf_35 : decode cX5_targetOf 35 = .ok (.invokestatic 98, 3) := by decide +kernel
theorem dX5_targetOf_38 : decode cX5_targetOf 38 = .ok (.ifCond .eq 10, 3) := by decide +kernel
theorem dX5_targetOf_41 : decode cX5_targetOf 41 = .ok (.aload_n 0, 1) := by decide +kernel
theorem dX5_targetOf_42 : decode cX5_targetOf 42 = .ok (.iload 4, 2) := by decide +kernel
theorem dX5_targetOf_44 : decode cX5_targetOf 44 = .ok (.invokestatic 109, 3) := by decide +kernel
theorem dX5_targetOf_47 : decode cX5_targetOf 47 = .ok (.istore_n 3, 1) := by decide +kernel
theorem dX5_targetOf_48 : decode cX5_targetOf 48 = .ok (.iinc 4 1, 3) := by decide +kernel
theorem dX5_targetOf_51 : decode cX5_targetOf 51 = .ok (.goto (-33), 3) := by decide +kernel
theorem dX5_targetOf_54 : decode cX5_targetOf 54 = .ok (.iload_n 3, 1) := by decide +kernel
theorem dX5_targetOf_55 : decode cX5_targetOf 55 = .ok (.ireturn, 1) := by decide +kernel
theorem dX5_lowerNeighbor_0 : decode cX5_lowerNeighbor 0 = .ok (.iconst (-1), 1) := by decide +kernel
theorem dX5_lowerNeighbor_1 : decode cX5_lowerNeighbor 1 = .ok (.istore_n 2, 1) := by decide +kernel
theorem dX5_lowerNeighbor_2 : decode cX5_lowerNeighbor 2 = .ok (.aload_n 0, 1) := by decide +kernel
theorem dX5_lowerNeighbor_3 : decode cX5_lowerNeighbor 3 = .ok (.getfield 87, 3) := by decide +kernel
theorem dX5_lowerNeighbor_6 : decode cX5_lowerNeighbor 6 = .ok (.iload_n 1, 1) := by decide +kernel
theorem dX5_lowerNeighbor_7 : decode cX5_lowerNeighbor 7 = .ok (.invokevirtual 74, 3) := by decide +kernel
theorem dX5_lowerNeighbor_10 : decode cX5_lowerNeighbor 10 = .ok (.istore_n 3, 1) := by decide +kernel
theorem dX5_lowerNeighbor_11 : decode cX5_lowerNeighbor 11 = .ok (.iload_n 3, 1) := by decide +kernel
theorem dX5_lowerNeighbor_12 : decode cX5_lowerNeighbor 12 = .ok (.istore 4, 2) := by decide +kernel
theorem dX5_lowerNeighbor_14 : decode cX5_lowerNeighbor 14 = .ok (.iconst 4, 1) := by decide +kernel
theorem dX5_lowerNeighbor_15 : decode cX5_lowerNeighbor 15 = .ok (.iload_n 1, 1) := by decide +kernel
theorem dX5_lowerNeighbor_16 : decode cX5_lowerNeighbor 16 = .ok (.imul, 1) := by decide +kernel
theorem dX5_lowerNeighbor_17 : decode cX5_lowerNeighbor 17 = .ok (.istore 5, 2) := by decide +kernel
theorem dX5_lowerNeighbor_19 : decode cX5_lowerNeighbor 19 = .ok (.iload 5, 2) := by decide +kernel
theorem dX5_lowerNeighbor_21 : decode cX5_lowerNeighbor 21 = .ok (.iconst 4, 1) := by decide +kernel
theorem dX5_lowerNeighbor_22 : decode cX5_lowerNeighbor 22 = .ok (.iload_n 1, 1) := by decide +kernel
theorem dX5_lowerNeighbor_23 : decode cX5_lowerNeighbor 23 = .ok (.imul, 1) := by decide +kernel
theorem dX5_lowerNeighbor_24 : decode cX5_lowerNeighbor 24 = .ok (.iconst 4, 1) := by decide +kernel
theorem dX5_lowerNeighbor_25 : decode cX5_lowerNeighbor 25 = .ok (.iadd, 1) := by decide +kernel
theorem dX5_lowerNeighbor_26 : decode cX5_lowerNeighbor 26 = .ok (.if_icmp .ge 61, 3) := by decide +kernel
theorem dX5_lowerNeighbor_29 : decode cX5_lowerNeighbor 29 = .ok (.aload_n 0, 1) := by decide +kernel
theorem dX5_lowerNeighbor_30 : decode cX5_lowerNeighbor 30 = .ok (.getfield 92, 3) := by decide +kernel
theorem dX5_lowerNeighbor_33 : decode cX5_lowerNeighbor 33 = .ok (.iload 5, 2) := by decide +kernel
theorem dX5_lowerNeighbor_35 : decode cX5_lowerNeighbor 35 = .ok (.invokevirtual 74, 3) := by decide +kernel
theorem dX5_lowerNeighbor_38 : decode cX5_lowerNeighbor 38 = .ok (.istore 6, 2) := by decide +kernel
theorem dX5_lowerNeighbor_40 : decode cX5_lowerNeighbor 40 = .ok (.aload_n 0, 1) := by decide +kernel
theorem dX5_lowerNeighbor_41 : decode cX5_lowerNeighbor 41 = .ok (.getfield 95, 3) := by decide +kernel
theorem dX5_lowerNeighbor_44 : decode cX5_lowerNeighbor 44 = .ok (.iload 5, 2) := by decide +kernel
theorem dX5_lowerNeighbor_46 : decode cX5_lowerNeighbor 46 = .ok (.invokevirtual 74, 3) := by decide +kernel
theorem dX5_lowerNeighbor_49 : decode cX5_lowerNeighbor 49 = .ok (.iload_n 3, 1) := by decide +kernel
theorem dX5_lowerNeighbor_50 : decode cX5_lowerNeighbor 50 = .ok (.if_icmp .ne 31, 3) := by decide +kernel
theorem dX5_lowerNeighbor_53 : decode cX5_lowerNeighbor 53 = .ok (.aload_n 0, 1) := by decide +kernel
theorem dX5_lowerNeighbor_54 : decode cX5_lowerNeighbor 54 = .ok (.getfield 87, 3) := by decide +kernel
theorem dX5_lowerNeighbor_57 : decode cX5_lowerNeighbor 57 = .ok (.iload 6, 2) := by decide +kernel
theorem dX5_lowerNeighbor_59 : decode cX5_lowerNeighbor 59 = .ok (.invokevirtual 74, 3) := by decide +kernel
theorem dX5_lowerNeighbor_62 : decode cX5_lowerNeighbor 62 = .ok (.iload 4, 2) := by decide +kernel
theorem dX5_lowerNeighbor_64 : decode cX5_lowerNeighbor 64 = .ok (.if_icmp .ge 17, 3) := by decide +kernel
theorem dX5_lowerNeighbor_67 : decode cX5_lowerNeighbor 67 = .ok (.iload 6, 2) := by decide +kernel
theorem dX5_lowerNeighbor_69 : decode cX5_lowerNeighbor 69 = .ok (.istore_n 2, 1) := by decide +kernel
theorem dX5_lowerNeighbor_70 : decode cX5_lowerNeighbor 70 = .ok (.aload_n 0, 1) := by decide +kernel
theorem dX5_lowerNeighbor_71 : decode cX5_lowerNeighbor 71 = .ok (.getfield 87, 3) := by decide +kernel
theorem dX5_lowerNeighbor_74 : decode cX5_lowerNeighbor 74 = .ok (.iload 6, 2) := by decide +kernel
theorem dX5_lowerNeighbor_76 : decode cX5_lowerNeighbor 76 = .ok (.invokevirtual 74, 3) := by decide +kernel
theorem dX5_lowerNeighbor_79 : decode cX5_lowerNeighbor 79 = .ok (.istore 4, 2) := by decide +kernel
theorem dX5_lowerNeighbor_81 : decode cX5_lowerNeighbor 81 = .ok (.iinc 5 1, 3) := by decide +kernel
theorem dX5_lowerNeighbor_84 : decode cX5_lowerNeighbor 84 = .ok (.goto (-65), 3) := by decide +kernel
theorem dX5_lowerNeighbor_87 : decode cX5_lowerNeighbor 87 = .ok (.iload_n 2, 1) := by decide +kernel
theorem dX5_lowerNeighbor_88 : decode cX5_lowerNeighbor 88 = .ok (.ireturn, 1) := by decide +kernel
theorem dX5_numberPits_0 : decode cX5_numberPits 0 = .ok (.aload_n 0, 1) := by decide +kernel
theorem dX5_numberPits_1 : decode cX5_numberPits 1 = .ok (.iconst 0, 1) := by decide +kernel
theorem dX5_numberPits_2 : decode cX5_numberPits 2 = .ok (.putfield 30, 3) := by decide +kernel
theorem dX5_numberPits_5 : decode cX5_numberPits 5 = .ok (.aload_n 0, 1) := by decide +kernel
theorem dX5_numberPits_6 : decode cX5_numberPits 6 = .ok (.getfield 27, 3) := by decide +kernel
theorem dX5_numberPits_9 : decode cX5_numberPits 9 = .ok (.iconst (-1), 1) := by decide +kernel
theorem dX5_numberPits_10 : decode cX5_numberPits 10 = .ok (.invokevirtual 113, 3) := by decide +kernel
theorem dX5_numberPits_13 : decode cX5_numberPits 13 = .ok (.iconst 0, 1) := by decide +kernel
theorem dX5_numberPits_14 : decode cX5_numberPits 14 = .ok (.istore_n 2, 1) := by decide +kernel
theorem dX5_numberPits_15 : decode cX5_numberPits 15 = .ok (.iload_n 2, 1) := by decide +kernel
theorem dX5_numberPits_16 : decode cX5_numberPits 16 = .ok (.aload_n 1, 1) := by decide +kernel
theorem dX5_numberPits_17 : decode cX5_numberPits 17 = .ok (.getfield 45, 3) := by decide +kernel
theorem dX5_numberPits_20 : decode cX5_numberPits 20 = .ok (.if_icmp .ge 97, 3) := by decide +kernel
theorem dX5_numberPits_23 : decode cX5_numberPits 23 = .ok (.aload_n 0, 1) := by decide +kernel
theorem dX5_numberPits_24 : decode cX5_numberPits 24 = .ok (.getfield 14, 3) := by decide +kernel
theorem dX5_numberPits_27 : decode cX5_numberPits 27 = .ok (.iload_n 2, 1) := by decide +kernel
theorem dX5_numberPits_28 : decode cX5_numberPits 28 = .ok (.invokevirtual 50, 3) := by decide +kernel
theorem dX5_numberPits_31 : decode cX5_numberPits 31 = .ok (.lstore_n 3, 1) := by decide +kernel
theorem dX5_numberPits_32 : decode cX5_numberPits 32 = .ok (.aload_n 0, 1) := by decide +kernel
theorem dX5_numberPits_33 : decode cX5_numberPits 33 = .ok (.getfield 23, 3) := by decide +kernel
theorem dX5_numberPits_36 : decode cX5_numberPits 36 = .ok (.iload_n 2, 1) := by decide +kernel
theorem dX5_numberPits_37 : decode cX5_numberPits 37 = .ok (.invokevirtual 74, 3) := by decide +kernel
theorem dX5_numberPits_40 : decode cX5_numberPits 40 = .ok (.iconst (-1), 1) := by decide +kernel
theorem dX5_numberPits_41 : decode cX5_numberPits 41 = .ok (.if_icmp .ne 70, 3) := by decide +kernel
theorem dX5_numberPits_44 : decode cX5_numberPits 44 = .ok (.lload_n 3, 1) := by decide +kernel
theorem dX5_numberPits_45 : decode cX5_numberPits 45 = .ok (.aload_n 1, 1) := by decide +kernel
theorem dX5_numberPits_46 : decode cX5_numberPits 46 = .ok (.getfield 105, 3) := by decide +kernel
theorem dX5_numberPits_49 : decode cX5_numberPits 49 = .ok (.land, 1) := by decide +kernel
theorem dX5_numberPits_50 : decode cX5_numberPits 50 = .ok (.lconst 0, 1) := by decide +kernel
theorem dX5_numberPits_51 : decode cX5_numberPits 51 = .ok (.lcmp, 1) := by decide +kernel
theorem dX5_numberPits_52 : decode cX5_numberPits 52 = .ok (.ifCond .ne 59, 3) := by decide +kernel
theorem dX5_numberPits_55 : decode cX5_numberPits 55 = .ok (.lload_n 3, 1) := by decide +kernel
theorem dX5_numberPits_56 : decode cX5_numberPits 56 = .ok (.invokestatic 83, 3) := by decide +kernel
theorem dX5_numberPits_59 : decode cX5_numberPits 59 = .ok (.istore 5, 2) := by decide +kernel
theorem dX5_numberPits_61 : decode cX5_numberPits 61 = .ok (.aload_n 0, 1) := by decide +kernel
theorem dX5_numberPits_62 : decode cX5_numberPits 62 = .ok (.getfield 27, 3) := by decide +kernel
theorem dX5_numberPits_65 : decode cX5_numberPits 65 = .ok (.iload_n 2, 1) := by decide +kernel
theorem dX5_numberPits_66 : decode cX5_numberPits 66 = .ok (.iload 5, 2) := by decide +kernel
theorem dX5_numberPits_68 : decode cX5_numberPits 68 = .ok (.iload_n 2, 1) := by decide +kernel
theorem dX5_numberPits_69 : decode cX5_numberPits 69 = .ok (.if_icmp .ne 10, 3) := by decide +kernel
theorem dX5_numberPits_72 : decode cX5_numberPits 72 = .ok (.aload_n 0, 1) := by decide +kernel
theorem dX5_numberPits_73 : decode cX5_numberPits 73 = .ok (.getfield 30, 3) := by decide +kernel
theorem dX5_numberPits_76 : decode cX5_numberPits 76 = .ok (.goto 12, 3) := by decide +kernel
theorem dX5_numberPits_79 : decode cX5_numberPits 79 = .ok (.aload_n 0, 1) := by decide +kernel
theorem dX5_numberPits_80 : decode cX5_numberPits 80 = .ok (.getfield 27, 3) := by decide +kernel
theorem dX5_numberPits_83 : decode cX5_numberPits 83 = .ok (.iload 5, 2) := by decide +kernel
theorem dX5_numberPits_85 : decode cX5_numberPits 85 = .ok (.invokevirtual 74, 3) := by decide +kernel
theorem dX5_numberPits_88 : decode cX5_numberPits 88 = .ok (.invokevirtual 76, 3) := by decide +kernel
theorem dX5_numberPits_91 : decode cX5_numberPits 91 = .ok (.aload_n 0, 1) := by decide +kernel
theorem dX5_numberPits_92 : decode cX5_numberPits 92 = .ok (.dup, 1) := by decide +kernel
theorem dX5_numberPits_93 : decode cX5_numberPits 93 = .ok (.getfield 30, 3) := by decide +kernel
theorem dX5_numberPits_96 : decode cX5_numberPits 96 = .ok (.iload 5, 2) := by decide +kernel
theorem dX5_numberPits_98 : decode cX5_numberPits 98 = .ok (.iload_n 2, 1) := by decide +kernel
theorem dX5_numberPits_99 : decode cX5_numberPits 99 = .ok (.if_icmp .ne 7, 3) := by decide +kernel
theorem dX5_numberPits_102 : decode cX5_numberPits 102 = .ok (.iconst 1, 1) := by decide +kernel
theorem dX5_numberPits_103 : decode cX5_numberPits 103 = .ok (.goto 4, 3) := by decide +kernel
theorem dX5_numberPits_106 : decode cX5_numberPits 106 = .ok (.iconst 0, 1) := by decide +kernel
theorem dX5_numberPits_107 : decode cX5_numberPits 107 = .ok (.iadd, 1) := by decide +kernel
theorem dX5_numberPits_108 : decode cX5_numberPits 108 = .ok (.putfield 30, 3) := by decide +kernel
theorem dX5_numberPits_111 : decode cX5_numberPits 111 = .ok (.iinc 2 1, 3) := by decide +kernel
theorem dX5_numberPits_114 : decode cX5_numberPits 114 = .ok (.goto (-99), 3) := by decide +kernel
theorem dX5_numberPits_117 : decode cX5_numberPits 117 = .ok (.return_, 1) := by decide +kernel
theorem dX5_endOf_0 : decode cX5_endOf 0 = .ok (.iload_n 1, 1) := by decide +kernel
theorem dX5_endOf_1 : decode cX5_endOf 1 = .ok (.istore_n 2, 1) := by decide +kernel
theorem dX5_endOf_2 : decode cX5_endOf 2 = .ok (.iconst 0, 1) := by decide +kernel
theorem dX5_endOf_3 : decode cX5_endOf 3 = .ok (.istore_n 3, 1) := by decide +kernel
theorem dX5_endOf_4 : decode cX5_endOf 4 = .ok (.iload_n 3, 1) := by decide +kernel
theorem dX5_endOf_5 : decode cX5_endOf 5 = .ok (.bipush 36, 2) := by decide +kernel
theorem dX5_endOf_7 : decode cX5_endOf 7 = .ok (.if_icmp .ge 30, 3) := by decide +kernel
theorem dX5_endOf_10 : decode cX5_endOf 10 = .ok (.aload_n 0, 1) := by decide +kernel
theorem dX5_endOf_11 : decode cX5_endOf 11 = .ok (.getfield 23, 3) := by decide +kernel
theorem dX5_endOf_14 : decode cX5_endOf 14 = .ok (.iload_n 2, 1) := by decide +kernel
theorem dX5_endOf_15 : decode cX5_endOf 15 = .ok (.invokevirtual 74, 3) := by decide +kernel
theorem dX5_endOf_18 : decode cX5_endOf 18 = .ok (.iconst (-1), 1) := by decide +kernel
theorem dX5_endOf_19 : decode cX5_endOf 19 = .ok (.if_icmp .eq 18, 3) := by decide +kernel
theorem dX5_endOf_22 : decode cX5_endOf 22 = .ok (.aload_n 0, 1) := by decide +kernel
theorem dX5_endOf_23 : decode cX5_endOf 23 = .ok (.getfield 23, 3) := by decide +kernel
theorem dX5_endOf_26 : decode cX5_endOf 26 = .ok (.iload_n 2, 1) := by decide +kernel
theorem dX5_endOf_27 : decode cX5_endOf 27 = .ok (.invokevirtual 74, 3) := by decide +kernel
theorem dX5_endOf_30 : decode cX5_endOf 30 = .ok (.istore_n 2, 1) := by decide +kernel
theorem dX5_endOf_31 : decode cX5_endOf 31 = .ok (.iinc 3 1, 3) := by decide +kernel
theorem dX5_endOf_34 : decode cX5_endOf 34 = .ok (.goto (-30), 3) := by decide +kernel
theorem dX5_endOf_37 : decode cX5_endOf 37 = .ok (.iload_n 2, 1) := by decide +kernel
theorem dX5_endOf_38 : decode cX5_endOf 38 = .ok (.ireturn, 1) := by decide +kernel
theorem dX5_isInPit_0 : decode cX5_isInPit 0 = .ok (.aload_n 0, 1) := by decide +kernel
theorem dX5_isInPit_1 : decode cX5_isInPit 1 = .ok (.getfield 23, 3) := by decide +kernel
theorem dX5_isInPit_4 : decode cX5_isInPit 4 = .ok (.iload_n 1, 1) := by decide +kernel
theorem dX5_isInPit_5 : decode cX5_isInPit 5 = .ok (.invokevirtual 74, 3) := by decide +kernel
theorem dX5_isInPit_8 : decode cX5_isInPit 8 = .ok (.iconst (-1), 1) := by decide +kernel
theorem dX5_isInPit_9 : decode cX5_isInPit 9 = .ok (.if_icmp .ne 19, 3) := by decide +kernel
theorem dX5_isInPit_12 : decode cX5_isInPit 12 = .ok (.aload_n 0, 1) := by decide +kernel
theorem dX5_isInPit_13 : decode cX5_isInPit 13 = .ok (.getfield 27, 3) := by decide +kernel
theorem dX5_isInPit_16 : decode cX5_isInPit 16 = .ok (.iload_n 1, 1) := by decide +kernel
theorem dX5_isInPit_17 : decode cX5_isInPit 17 = .ok (.invokevirtual 74, 3) := by decide +kernel
theorem dX5_isInPit_20 : decode cX5_isInPit 20 = .ok (.iconst (-1), 1) := by decide +kernel
theorem dX5_isInPit_21 : decode cX5_isInPit 21 = .ok (.if_icmp .eq 7, 3) := by decide +kernel
theorem dX5_isInPit_24 : decode cX5_isInPit 24 = .ok (.iconst 1, 1) := by decide +kernel
theorem dX5_isInPit_25 : decode cX5_isInPit 25 = .ok (.goto 4, 3) := by decide +kernel
theorem dX5_isInPit_28 : decode cX5_isInPit 28 = .ok (.iconst 0, 1) := by decide +kernel
theorem dX5_isInPit_29 : decode cX5_isInPit 29 = .ok (.ireturn, 1) := by decide +kernel
theorem dX5_courseFrom_0 : decode cX5_courseFrom 0 = .ok (.lconst 0, 1) := by decide +kernel
theorem dX5_courseFrom_1 : decode cX5_courseFrom 1 = .ok (.lstore_n 2, 1) := by decide +kernel
theorem dX5_courseFrom_2 : decode cX5_courseFrom 2 = .ok (.iload_n 1, 1) := by decide +kernel
theorem dX5_courseFrom_3 : decode cX5_courseFrom 3 = .ok (.istore 4, 2) := by decide +kernel
theorem dX5_courseFrom_5 : decode cX5_courseFrom 5 = .ok (.iconst 0, 1) := by decide +kernel
theorem dX5_courseFrom_6 : decode cX5_courseFrom 6 = .ok (.istore 5, 2) := by decide +kernel
theorem dX5_courseFrom_8 : decode cX5_courseFrom 8 = .ok (.iload 5, 2) := by decide +kernel
theorem dX5_courseFrom_10 : decode cX5_courseFrom 10 = .ok (.bipush 36, 2) := by decide +kernel
theorem dX5_courseFrom_12 : decode cX5_courseFrom 12 = .ok (.if_icmp .ge 38, 3) := by decide +kernel
theorem dX5_courseFrom_15 : decode cX5_courseFrom 15 = .ok (.iload 4, 2) := by decide +kernel
theorem dX5_courseFrom_17 : decode cX5_courseFrom 17 = .ok (.iconst (-1), 1) := by decide +kernel
theorem dX5_courseFrom_18 : decode cX5_courseFrom 18 = .ok (.if_icmp .eq 32, 3) := by decide +kernel
theorem dX5_courseFrom_21 : decode cX5_courseFrom 21 = .ok (.lload_n 2, 1) := by decide +kernel
theorem dX5_courseFrom_22 : decode cX5_courseFrom 22 = .ok (.aload_n 0, 1) := by decide +kernel
theorem dX5_courseFrom_23 : decode cX5_courseFrom 23 = .ok (.getfield 14, 3) := by decide +kernel
theorem dX5_courseFrom_26 : decode cX5_courseFrom 26 = .ok (.iload 4, 2) := by decide +kernel
theorem dX5_courseFrom_28 : decode cX5_courseFrom 28 = .ok (.invokevirtual 50, 3) := by decide +kernel
theorem dX5_courseFrom_31 : decode cX5_courseFrom 31 = .ok (.lor, 1) := by decide +kernel
theorem dX5_courseFrom_32 : decode cX5_courseFrom 32 = .ok (.lstore_n 2, 1) := by decide +kernel
theorem dX5_courseFrom_33 : decode cX5_courseFrom 33 = .ok (.aload_n 0, 1) := by decide +kernel
theorem dX5_courseFrom_34 : decode cX5_courseFrom 34 = .ok (.getfield 23, 3) := by decide +kernel
theorem dX5_courseFrom_37 : decode cX5_courseFrom 37 = .ok (.iload 4, 2) := by decide +kernel
theorem dX5_courseFrom_39 : decode cX5_courseFrom 39 = .ok (.invokevirtual 74, 3) := by decide +kernel
theorem dX5_courseFrom_42 : decode cX5_courseFrom 42 = .ok (.istore 4, 2) := by decide +kernel
theorem dX5_courseFrom_44 : decode cX5_courseFrom 44 = .ok (.iinc 5 1, 3) := by decide +kernel
theorem dX5_courseFrom_47 : decode cX5_courseFrom 47 = .ok (.goto (-39), 3) := by decide +kernel
theorem dX5_courseFrom_50 : decode cX5_courseFrom 50 = .ok (.lload_n 2, 1) := by decide +kernel
theorem dX5_courseFrom_51 : decode cX5_courseFrom 51 = .ok (.lreturn, 1) := by decide +kernel
