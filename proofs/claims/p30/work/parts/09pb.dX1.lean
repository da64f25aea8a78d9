theorem dX1_init_0 : decode cX1_init 0 = .ok (.aload_n 0, 1) := by decide +kernel
theorem dX1_init_1 : decode cX1_init 1 = .ok (.invokespecial 3, 3) := by decide +kernel
theorem dX1_init_4 : decode cX1_init 4 = .ok (.aload_n 0, 1) := by decide +kernel
theorem dX1_init_5 : decode cX1_init 5 = .ok (.new 9, 3) := by decide +kernel
theorem dX1_init_8 : decode cX1_init 8 = .ok (.dup, 1) := by decide +kernel
theorem dX1_init_9 : decode cX1_init 9 = .ok (.bipush 71, 2) := by decide +kernel
theorem dX1_init_11 : decode cX1_init 11 = .ok (.invokespecial 11, 3) := by decide +kernel
theorem dX1_init_14 : decode cX1_init 14 = .ok (.putfield 14, 3) := by decide +kernel
theorem dX1_init_17 : decode cX1_init 17 = .ok (.aload_n 0, 1) := by decide +kernel
theorem dX1_init_18 : decode cX1_init 18 = .ok (.new 20, 3) := by decide +kernel
theorem dX1_init_21 : decode cX1_init 21 = .ok (.dup, 1) := by decide +kernel
theorem dX1_init_22 : decode cX1_init 22 = .ok (.bipush 71, 2) := by decide +kernel
theorem dX1_init_24 : decode cX1_init 24 = .ok (.invokespecial 22, 3) := by decide +kernel
theorem dX1_init_27 : decode cX1_init 27 = .ok (.putfield 23, 3) := by decide +kernel
theorem dX1_init_30 : decode cX1_init 30 = .ok (.aload_n 0, 1) := by decide +kernel
theorem dX1_init_31 : decode cX1_init 31 = .ok (.new 20, 3) := by decide +kernel
theorem dX1_init_34 : decode cX1_init 34 = .ok (.dup, 1) := by decide +kernel
theorem dX1_init_35 : decode cX1_init 35 = .ok (.bipush 71, 2) := by decide +kernel
theorem dX1_init_37 : decode cX1_init 37 = .ok (.invokespecial 22, 3) := by decide +kernel
theorem dX1_init_40 : decode cX1_init 40 = .ok (.putfield 27, 3) := by decide +kernel
theorem dX1_init_43 : decode cX1_init 43 = .ok (.aload_n 0, 1) := by decide +kernel
theorem dX1_init_44 : decode cX1_init 44 = .ok (.new 20, 3) := by decide +kernel
theorem dX1_init_47 : decode cX1_init 47 = .ok (.dup, 1) := by decide +kernel
theorem dX1_init_48 : decode cX1_init 48 = .ok (.bipush 71, 2) := by decide +kernel
theorem dX1_init_50 : decode cX1_init 50 = .ok (.invokespecial 22, 3) := by decide +kernel
theorem dX1_init_53 : decode cX1_init 53 = .ok (.putfield 30, 3) := by decide +kernel
theorem dX1_init_56 : decode cX1_init 56 = .ok (.aload_n 0, 1) := by decide +kernel
theorem dX1_init_57 : decode cX1_init 57 = .ok (.new 20, 3) := by decide +kernel
theorem dX1_init_60 : decode cX1_init 60 = .ok (.dup, 1) := by decide +kernel
theorem dX1_init_61 : decode cX1_init 61 = .ok (.bipush 71, 2) := by decide +kernel
theorem dX1_init_63 : decode cX1_init 63 = .ok (.invokespecial 22, 3) := by decide +kernel
theorem dX1_init_66 : decode cX1_init 66 = .ok (.putfield 33, 3) := by decide +kernel
theorem dX1_init_69 : decode cX1_init 69 = .ok (.aload_n 0, 1) := by decide +kernel
theorem dX1_init_70 : decode cX1_init 70 = .ok (.new 20, 3) := by decide +kernel
theorem dX1_init_73 : decode cX1_init 73 = .ok (.dup, 1) := by decide +kernel
theorem dX1_init_74 : decode cX1_init 74 = .ok (.bipush 71, 2) := by decide +kernel
theorem dX1_init_76 : decode cX1_init 76 = .ok (.invokespecial 22, 3) := by decide +kernel
theorem dX1_init_79 : decode cX1_init 79 = .ok (.putfield 36, 3) := by decide +kernel
theorem dX1_init_82 : decode cX1_init 82 = .ok (.aload_n 0, 1) := by decide +kernel
theorem dX1_init_83 : decode cX1_init 83 = .ok (.new 20, 3) := by decide +kernel
theorem dX1_init_86 : decode cX1_init 86 = .ok (.dup, 1) := by decide +kernel
theorem dX1_init_87 : decode cX1_init 87 = .ok (.bipush 71, 2) := by decide +kernel
theorem dX1_init_89 : decode cX1_init 89 = .ok (.invokespecial 22, 3) := by decide +kernel
theorem dX1_init_92 : decode cX1_init 92 = .ok (.putfield 39, 3) := by decide +kernel
theorem dX1_init_95 : decode cX1_init 95 = .ok (.aload_n 0, 1) := by decide +kernel
theorem dX1_init_96 : decode cX1_init 96 = .ok (.new 20, 3) := by decide +kernel
theorem dX1_init_99 : decode cX1_init 99 = .ok (.dup, 1) := by decide +kernel
theorem dX1_init_100 : decode cX1_init 100 = .ok (.bipush 71, 2) := by decide +kernel
theorem dX1_init_102 : decode cX1_init 102 = .ok (.invokespecial 22, 3) := by decide +kernel
theorem dX1_init_105 : decode cX1_init 105 = .ok (.putfield 42, 3) := by decide +kernel
theorem dX1_init_108 : decode cX1_init 108 = .ok (.aload_n 0, 1) := by decide +kernel
theorem dX1_init_109 : decode cX1_init 109 = .ok (.new 20, 3) := by decide +kernel
theorem dX1_init_112 : decode cX1_init 112 = .ok (.dup, 1) := by decide +kernel
theorem dX1_init_113 : decode cX1_init 113 = .ok (.bipush 36, 2) := by decide +kernel
theorem dX1_init_115 : decode cX1_init 115 = .ok (.invokespecial 22, 3) := by decide +kernel
theorem dX1_init_118 : decode cX1_init 118 = .ok (.putfield 45, 3) := by decide +kernel
theorem dX1_init_121 : decode cX1_init 121 = .ok (.aload_n 0, 1) := by decide +kernel
theorem dX1_init_122 : decode cX1_init 122 = .ok (.new 20, 3) := by decide +kernel
theorem dX1_init_125 : decode cX1_init 125 = .ok (.dup, 1) := by decide +kernel
theorem dX1_init_126 : decode cX1_init 126 = .ok (.bipush 71, 2) := by decide +kernel
theorem dX1_init_128 : decode cX1_init 128 = .ok (.invokespecial 22, 3) := by decide +kernel
theorem dX1_init_131 : decode cX1_init 131 = .ok (.putfield 48, 3) := by decide +kernel
theorem dX1_init_134 : decode cX1_init 134 = .ok (.aload_n 0, 1) := by decide +kernel
theorem dX1_init_135 : decode cX1_init 135 = .ok (.new 20, 3) := by decide +kernel
theorem dX1_init_138 : decode cX1_init 138 = .ok (.dup, 1) := by decide +kernel
theorem dX1_init_139 : decode cX1_init 139 = .ok (.bipush 71, 2) := by decide +kernel
theorem dX1_init_141 : decode cX1_init 141 = .ok (.invokespecial 22, 3) := by decide +kernel
theorem dX1_init_144 : decode cX1_init 144 = .ok (.putfield 51, 3) := by decide +kernel
theorem dX1_init_147 : decode cX1_init 147 = .ok (.return_, 1) := by decide +kernel
theorem dX1_copyFrom_0 : decode cX1_copyFrom 0 = .ok (.aload_n 0, 1) := by decide +kernel
theorem dX1_copyFrom_1 : decode cX1_copyFrom 1 = .ok (.getfield 14, 3) := by decide +kernel
theorem dX1_copyFrom_4 : decode cX1_copyFrom 4 = .ok (.aload_n 1, 1) := by decide +kernel
theorem dX1_copyFrom_5 : decode cX1_copyFrom 5 = .ok (.getfield 14, 3) := by decide +kernel
theorem dX1_copyFrom_8 : decode cX1_copyFrom 8 = .ok (.invokevirtual 54, 3) := by decide +kernel
theorem dX1_copyFrom_11 : decode cX1_copyFrom 11 = .ok (.aload_n 0, 1) := by decide +kernel
theorem dX1_copyFrom_12 : decode cX1_copyFrom 12 = .ok (.getfield 23, 3) := by decide +kernel
theorem dX1_copyFrom_15 : decode cX1_copyFrom 15 = .ok (.aload_n 1, 1) := by decide +kernel
theorem dX1_copyFrom_16 : decode cX1_copyFrom 16 = .ok (.getfield 23, 3) := by decide +kernel
theorem dX1_copyFrom_19 : decode cX1_copyFrom 19 = .ok (.invokevirtual 58, 3) := by decide +kernel
theorem dX1_copyFrom_22 : decode cX1_copyFrom 22 = .ok (.aload_n 0, 1) := by decide +kernel
theorem dX1_copyFrom_23 : decode cX1_copyFrom 23 = .ok (.getfield 27, 3) := by decide +kernel
theorem dX1_copyFrom_26 : decode cX1_copyFrom 26 = .ok (.aload_n 1, 1) := by decide +kernel
theorem dX1_copyFrom_27 : decode cX1_copyFrom 27 = .ok (.getfield 27, 3) := by decide +kernel
theorem dX1_copyFrom_30 : decode cX1_copyFrom 30 = .ok (.invokevirtual 58, 3) := by decide +kernel
theorem dX1_copyFrom_33 : decode cX1_copyFrom 33 = .ok (.aload_n 0, 1) := by decide +kernel
theorem dX1_copyFrom_34 : decode cX1_copyFrom 34 = .ok (.getfield 30, 3) := by decide +kernel
theorem dX1_copyFrom_37 : decode cX1_copyFrom 37 = .ok (.aload_n 1, 1) := by decide +kernel
theorem dX1_copyFrom_38 : decode cX1_copyFrom 38 = .ok (.getfield 30, 3) := by decide +kernel
theorem dX1_copyFrom_41 : decode cX1_copyFrom 41 = .ok (.invokevirtual 58, 3) := by decide +kernel
theorem dX1_copyFrom_44 : decode cX1_copyFrom 44 = .ok (.aload_n 0, 1) := by decide +kernel
theorem dX1_copyFrom_45 : decode cX1_copyFrom 45 = .ok (.getfield 33, 3) := by decide +kernel
theorem dX1_copyFrom_48 : decode cX1_copyFrom 48 = .ok (.aload_n 1, 1) := by decide +kernel
theorem dX1_copyFrom_49 : decode cX1_copyFrom 49 = .ok (.getfield 33, 3) := by decide +kernel
theorem dX1_copyFrom_52 : decode cX1_copyFrom 52 = .ok (.invokevirtual 58, 3) := by decide +kernel
theorem dX1_copyFrom_55 : decode cX1_copyFrom 55 = .ok (.aload_n 0, 1) := by decide +kernel
theorem dX1_copyFrom_56 : decode cX1_copyFrom 56 = .ok (.getfield 36, 3) := by decide +kernel
theorem dX1_copyFrom_59 : decode cX1_copyFrom 59 = .ok (.aload_n 1, 1) := by decide +kernel
theorem dX1_copyFrom_60 : decode cX1_copyFrom 60 = .ok (.getfield 36, 3) := by decide +kernel
theorem dX1_copyFrom_63 : decode cX1_copyFrom 63 = .ok (.invokevirtual 58, 3) := by decide +kernel
theorem dX1_copyFrom_66 : decode cX1_copyFrom 66 = .ok (.aload_n 0, 1) := by decide +kernel
theorem dX1_copyFrom_67 : decode cX1_copyFrom 67 = .ok (.getfield 39, 3) := by decide +kernel
theorem dX1_copyFrom_70 : decode cX1_copyFrom 70 = .ok (.aload_n 1, 1) := by decide +kernel
theorem dX1_copyFrom_71 : decode cX1_copyFrom 71 = .ok (.getfield 39, 3) := by decide +kernel
theorem dX1_copyFrom_74 : decode cX1_copyFrom 74 = .ok (.invokevirtual 58, 3) := by decide +kernel
theorem dX1_copyFrom_77 : decode cX1_copyFrom 77 = .ok (.aload_n 0, 1) := by decide +kernel
theorem dX1_copyFrom_78 : decode cX1_copyFrom 78 = .ok (.getfield 42, 3) := by decide +kernel
theorem dX1_copyFrom_81 : decode cX1_copyFrom 81 = .ok (.aload_n 1, 1) := by decide +kernel
theorem dX1_copyFrom_82 : decode cX1_copyFrom 82 = .ok (.getfield 42, 3) := by decide +kernel
theorem dX1_copyFrom_85 : decode cX1_copyFrom 85 = .ok (.invokevirtual 58, 3) := by decide +kernel
theorem dX1_copyFrom_88 : decode cX1_copyFrom 88 = .ok (.aload_n 0, 1) := by decide +kernel
theorem dX1_copyFrom_89 : decode cX1_copyFrom 89 = .ok (.getfield 45, 3) := by decide +kernel
theorem dX1_copyFrom_92 : decode cX1_copyFrom 92 = .ok (.aload_n 1, 1) := by decide +kernel
theorem dX1_copyFrom_93 : decode cX1_copyFrom 93 = .ok (.getfield 45, 3) := by decide +kernel
theorem dX1_copyFrom_96 : decode cX1_copyFrom 96 = .ok (.invokevirtual 58, 3) := by decide +kernel
theorem dX1_copyFrom_99 : decode cX1_copyFrom 99 = .ok (.return_, 1) := by decide +kernel
theorem dX1_restart_0 : decode cX1_restart 0 = .ok (.aload_n 0, 1) := by decide +kernel
theorem dX1_restart_1 : decode cX1_restart 1 = .ok (.getfield 14, 3) := by decide +kernel
theorem dX1_restart_4 : decode cX1_restart 4 = .ok (.lconst 0, 1) := by decide +kernel
theorem dX1_restart_5 : decode cX1_restart 5 = .ok (.invokevirtual 61, 3) := by decide +kernel
theorem dX1_restart_8 : decode cX1_restart 8 = .ok (.aload_n 0, 1) := by decide +kernel
theorem dX1_restart_9 : decode cX1_restart 9 = .ok (.getfield 45, 3) := by decide +kernel
theorem dX1_restart_12 : decode cX1_restart 12 = .ok (.aload_n 2, 1) := by decide +kernel
theorem dX1_restart_13 : decode cX1_restart 13 = .ok (.getfield 65, 3) := by decide +kernel
theorem dX1_restart_16 : decode cX1_restart 16 = .ok (.invokevirtual 58, 3) := by decide +kernel
theorem dX1_restart_19 : decode cX1_restart 19 = .ok (.iconst 0, 1) := by decide +kernel
theorem dX1_restart_20 : decode cX1_restart 20 = .ok (.istore_n 3, 1) := by decide +kernel
theorem dX1_restart_21 : decode cX1_restart 21 = .ok (.iload_n 3, 1) := by decide +kernel
theorem dX1_restart_22 : decode cX1_restart 22 = .ok (.aload_n 1, 1) := by decide +kernel
theorem dX1_restart_23 : decode cX1_restart 23 = .ok (.getfield 70, 3) := by decide +kernel
theorem dX1_restart_26 : decode cX1_restart 26 = .ok (.if_icmp .ge 42, 3) := by decide +kernel
theorem dX1_restart_29 : decode cX1_restart 29 = .ok (.aload_n 0, 1) := by decide +kernel
theorem dX1_restart_30 : decode cX1_restart 30 = .ok (.getfield 45, 3) := by decide +kernel
theorem dX1_restart_33 : decode cX1_restart 33 = .ok (.iload_n 3, 1) := by decide +kernel
theorem dX1_restart_34 : decode cX1_restart 34 = .ok (.invokevirtual 75, 3) := by decide +kernel
theorem dX1_restart_37 : decode cX1_restart 37 = .ok (.istore 4, 2) := by decide +kernel
theorem dX1_restart_39 : decode cX1_restart 39 = .ok (.aload_n 0, 1) := by decide +kernel
theorem dX1_restart_40 : decode cX1_restart 40 = .ok (.getfield 14, 3) := by decide +kernel
theorem dX1_restart_43 : decode cX1_restart 43 = .ok (.iload 4, 2) := by decide +kernel
theorem dX1_restart_45 : decode cX1_restart 45 = .ok (.aload_n 0, 1) := by decide +kernel
theorem dX1_restart_46 : decode cX1_restart 46 = .ok (.getfield 14, 3) := by decide +kernel
theorem dX1_restart_49 : decode cX1_restart 49 = .ok (.iload 4, 2) := by decide +kernel
theorem dX1_restart_51 : decode cX1_restart 51 = .ok (.invokevirtual 79, 3) := by decide +kernel
theorem dX1_restart_54 : decode cX1_restart 54 = .ok (.iload_n 3, 1) := by decide +kernel
theorem dX1_restart_55 : decode cX1_restart 55 = .ok (.invokestatic 82, 3) := by decide +kernel
theorem dX1_restart_58 : decode cX1_restart 58 = .ok (.lor, 1) := by decide +kernel
theorem dX1_restart_59 : decode cX1_restart 59 = .ok (.invokevirtual 85, 3) := by decide +kernel
theorem dX1_restart_62 : decode cX1_restart 62 = .ok (.iinc 3 1, 3) := by decide +kernel
theorem dX1_restart_65 : decode cX1_restart 65 = .ok (.goto (-44), 3) := by decide +kernel
theorem dX1_restart_68 : decode cX1_restart 68 = .ok (.iconst 0, 1) := by decide +kernel
theorem dX1_restart_69 : decode cX1_restart 69 = .ok (.istore_n 3, 1) := by decide +kernel
theorem dX1_restart_70 : decode cX1_restart 70 = .ok (.iload_n 3, 1) := by decide +kernel
theorem dX1_restart_71 : decode cX1_restart 71 = .ok (.aload_n 2, 1) := by decide +kernel
theorem dX1_restart_72 : decode cX1_restart 72 = .ok (.getfield 89, 3) := by decide +kernel
theorem dX1_restart_75 : decode cX1_restart 75 = .ok (.if_icmp .ge 66, 3) := by decide +kernel
theorem dX1_restart_78 : decode cX1_restart 78 = .ok (.aload_n 0, 1) := by decide +kernel
theorem dX1_restart_79 : decode cX1_restart 79 = .ok (.getfield 23, 3) := by decide +kernel
theorem dX1_restart_82 : decode cX1_restart 82 = .ok (.iload_n 3, 1) := by decide +kernel
theorem dX1_restart_83 : decode cX1_restart 83 = .ok (.iconst 0, 1) := by decide +kernel
theorem dX1_restart_84 : decode cX1_restart 84 = .ok (.invokevirtual 92, 3) := by decide +kernel
theorem dX1_restart_87 : decode cX1_restart 87 = .ok (.aload_n 0, 1) := by decide +kernel
theorem dX1_restart_88 : decode cX1_restart 88 = .ok (.getfield 33, 3) := by decide +kernel
theorem dX1_restart_91 : decode cX1_restart 91 = .ok (.iload_n 3, 1) := by decide +kernel
theorem dX1_restart_92 : decode cX1_restart 92 = .ok (.iconst 0, 1) := by decide +kernel
theorem dX1_restart_93 : decode cX1_restart 93 = .ok (.invokevirtual 92, 3) := by decide +kernel
theorem dX1_restart_96 : decode cX1_restart 96 = .ok (.aload_n 0, 1) := by decide +kernel
theorem dX1_restart_97 : decode cX1_restart 97 = .ok (.getfield 36, 3) := by decide +kernel
theorem dX1_restart_100 : decode cX1_restart 100 = .ok (.iload_n 3, 1) := by decide +kernel
theorem dX1_restart_101 : decode cX1_restart 101 = .ok (.iconst 1, 1) := by decide +kernel
theorem dX1_restart_102 : decode cX1_restart 102 = .ok (.invokevirtual 92, 3) := by decide +kernel
theorem dX1_restart_105 : decode cX1_restart 105 = .ok (.aload_n 0, 1) := by decide +kernel
theorem dX1_restart_106 : decode cX1_restart 106 = .ok (.getfield 39, 3) := by decide +kernel
theorem dX1_restart_109 : decode cX1_restart 109 = .ok (.iload_n 3, 1) := by decide +kernel
theorem dX1_restart_110 : decode cX1_restart 110 = .ok (.iconst (-1), 1) := by decide +kernel
theorem dX1_restart_111 : decode cX1_restart 111 = .ok (.invokevirtual 92, 3) := by decide +kernel
theorem dX1_restart_114 : decode cX1_restart 114 = .ok (.aload_n 0, 1) := by decide +kernel
theorem dX1_restart_115 : decode cX1_restart 115 = .ok (.getfield 42, 3) := by decide +kernel
theorem dX1_restart_118 : decode cX1_restart 118 = .ok (.iload_n 3, 1) := by decide +kernel
theorem dX1_restart_119 : decode cX1_restart 119 = .ok (.iconst (-1), 1) := by decide +kernel
theorem dX1_restart_120 : decode cX1_restart 120 = .ok (.invokevirtual 92, 3) := by decide +kernel
theorem dX1_restart_123 : decode cX1_restart 123 = .ok (.aload_n 0, 1) := by decide +kernel
theorem dX1_restart_124 : decode cX1_restart 124 = .ok (.aload_n 1, 1) := by decide +kernel
theorem dX1_restart_125 : decode cX1_restart 125 = .ok (.iload_n 3, 1) := by decide +kernel
theorem dX1_restart_126 : decode cX1_restart 126 = .ok (.invokevirtual 95, 3) := by decide +kernel
theorem dX1_restart_129 : decode cX1_restart 129 = .ok (.aload_n 0, 1) := by decide +kernel
theorem dX1_restart_130 : decode cX1_restart 130 = .ok (.aload_n 1, 1) := by decide +kernel
theorem dX1_restart_131 : decode cX1_restart 131 = .ok (.iload_n 3, 1) := by decide +kernel
theorem dX1_restart_132 : decode cX1_restart 132 = .ok (.invokevirtual 99, 3) := by decide +kernel
theorem dX1_restart_135 : decode cX1_restart 135 = .ok (.iinc 3 1, 3) := by decide +kernel
theorem dX1_restart_138 : decode cX1_restart 138 = .ok (.goto (-68), 3) := by decide +kernel
theorem dX1_restart_141 : decode cX1_restart 141 = .ok (.return_, 1) := by decide +kernel
theorem dX1_findPass_0 : decode cX1_findPass 0 = .ok (.aload_n 0, 1) := by decide +kernel
theorem dX1_findPass_1 : decode cX1_findPass 1 = .ok (.getfield 14, 3) := by decide +kernel
theorem dX1_findPass_4 : decode cX1_findPass 4 = .ok (.iload_n 2, 1) := by decide +kernel
theorem dX1_findPass_5 : decode cX1_findPass 5 = .ok (.invokevirtual 79, 3) := by decide +kernel
theorem dX1_findPass_8 : decode cX1_findPass 8 = .ok (.lstore_n 3, 1) := by decide +kernel
theorem dX1_findPass_9 : decode cX1_findPass 9 = .ok (.iconst (-1), 1) := by decide +kernel
theorem dX1_findPass_10 : decode cX1_findPass 10 = .ok (.istore 5, 2) := by decide +kernel
theorem dX1_findPass_12 : decode cX1_findPass 12 = .ok (.iconst 0, 1) := by decide +kernel
theorem dX1_findPass_13 : decode cX1_findPass 13 = .ok (.istore 6, 2) := by decide +kernel
theorem dX1_findPass_15 : decode cX1_findPass 15 = .ok (.iload 6, 2) := by decide +kernel
theorem dX1_findPass_17 : decode cX1_findPass 17 = .ok (.iconst 4, 1) := by decide +kernel
theorem dX1_findPass_18 : decode cX1_findPass 18 = .ok (.aload_n 1, 1) := by decide +kernel
theorem dX1_findPass_19 : decode cX1_findPass 19 = .ok (.getfield 70, 3) := by decide +kernel
theorem dX1_findPass_22 : decode cX1_findPass 22 = .ok (.imul, 1) := by decide +kernel
theorem dX1_findPass_23 : decode cX1_findPass 23 = .ok (.if_icmp .ge 77, 3) := by decide +kernel
theorem dX1_findPass_26 : decode cX1_findPass 26 = .ok (.aload_n 1, 1) := by decide +kernel
theorem dX1_findPass_27 : decode cX1_findPass 27 = .ok (.getfield 102, 3) := by decide +kernel
theorem dX1_findPass_30 : decode cX1_findPass 30 = .ok (.iload 6, 2) := by decide +kernel
theorem dX1_findPass_32 : decode cX1_findPass 32 = .ok (.invokevirtual 75, 3) := by decide +kernel
theorem dX1_findPass_35 : decode cX1_findPass 35 = .ok (.istore 7, 2) := by decide +kernel
theorem dX1_findPass_37 : decode cX1_findPass 37 = .ok (.lload_n 3, 1) := by decide +kernel
theorem dX1_findPass_38 : decode cX1_findPass 38 = .ok (.iload 6, 2) := by decide +kernel
theorem dX1_findPass_40 : decode cX1_findPass 40 = .ok (.iconst 4, 1) := by decide +kernel
theorem dX1_findPass_41 : decode cX1_findPass 41 = .ok (.idiv, 1) := by decide +kernel
theorem dX1_findPass_42 : decode cX1_findPass 42 = .ok (.invokestatic 105, 3) := by decide +kernel
theorem dX1_findPass_45 : decode cX1_findPass 45 = .ok (.ifCond .eq 49, 3) := by decide +kernel
theorem dX1_findPass_48 : decode cX1_findPass 48 = .ok (.iload 7, 2) := by decide +kernel
theorem dX1_findPass_50 : decode cX1_findPass 50 = .ok (.iconst (-1), 1) := by decide +kernel
theorem dX1_findPass_51 : decode cX1_findPass 51 = .ok (.if_icmp .eq 43, 3) := by decide +kernel
theorem dX1_findPass_54 : decode cX1_findPass 54 = .ok (.lload_n 3, 1) := by decide +kernel
theorem dX1_findPass_55 : decode cX1_findPass 55 = .ok (.iload 7, 2) := by decide +kernel
theorem dX1_findPass_57 : decode cX1_findPass 57 = .ok (.invokestatic 105, 3) := by decide +kernel
theorem dX1_findPass_60 : decode cX1_findPass 60 = .ok (.ifCond .ne 34, 3) := by decide +kernel
theorem dX1_findPass_63 : decode cX1_findPass 63 = .ok (.iload 5, 2) := by decide +kernel
theorem dX1_findPass_65 : decode cX1_findPass 65 = .ok (.iconst (-1), 1) := by decide +kernel
theorem dX1_findPass_66 : decode cX1_findPass 66 = .ok (.if_icmp .eq 24, 3) := by decide +kernel
theorem dX1_findPass_69 : decode cX1_findPass 69 = .ok (.aload_n 1, 1) := by decide +kernel
theorem dX1_findPass_70 : decode cX1_findPass 70 = .ok (.getfield 109, 3) := by decide +kernel
theorem dX1_findPass_73 : decode cX1_findPass 73 = .ok (.iload 6, 2) := by decide +kernel
theorem dX1_findPass_75 : decode cX1_findPass 75 = .ok (.invokevirtual 75, 3) := by decide +kernel
theorem dX1_findPass_78 : decode cX1_findPass 78 = .ok (.aload_n 1, 1) := by decide +kernel
theorem dX1_findPass_79 : decode cX1_findPass 79 = .ok (.getfield 109, 3) := by decide +kernel
theorem dX1_findPass_82 : decode cX1_findPass 82 = .ok (.iload 5, 2) := by decide +kernel
theorem dX1_findPass_84 : decode cX1_findPass 84 = .ok (.invokevirtual 75, 3) := by decide +kernel
theorem dX1_findPass_87 : decode cX1_findPass 87 = .ok (.if_icmp .ge 7, 3) := by decide +kernel
theorem dX1_findPass_90 : decode cX1_findPass 90 = .ok (.iload 6, 2) := by decide +kernel
theorem dX1_findPass_92 : decode cX1_findPass 92 = .ok (.istore 5, 2) := by decide +kernel
theorem dX1_findPass_94 : decode cX1_findPass 94 = .ok (.iinc 6 1, 3) := by decide +kernel
theorem dX1_findPass_97 : decode cX1_findPass 97 = .ok (.goto (-82), 3) := by decide +kernel
theorem dX1_findPass_100 : decode cX1_findPass 100 = .ok (.aload_n 0, 1) := by decide +kernel
theorem dX1_findPass_101 : decode cX1_findPass 101 = .ok (.getfield 30, 3) := by decide +kernel
theorem dX1_findPass_104 : decode cX1_findPass 104 = .ok (.iload_n 2, 1) := by decide +kernel
theorem dX1_findPass_105 : decode cX1_findPass 105 = .ok (.iload 5, 2) := by decide +kernel
theorem dX1_findPass_107 : decode cX1_findPass 107 = .ok (.invokevirtual 92, 3) := by decide +kernel
theorem dX1_findPass_110 : decode cX1_findPass 110 = .ok (.return_, 1) := by decide +kernel
theorem dX1_findCapacity_0 : decode cX1_findCapacity 0 = .ok (.aload_n 0, 1) := by decide +kernel
theorem dX1_findCapacity_1 : decode cX1_findCapacity 1 = .ok (.getfield 30, 3) := by decide +kernel
theorem dX1_findCapacity_4 : decode cX1_findCapacity 4 = .ok (.iload_n 2, 1) := by decide +kernel
theorem dX1_findCapacity_5 : decode cX1_findCapacity 5 = .ok (.invokevirtual 75, 3) := by decide +kernel
theorem dX1_findCapacity_8 : decode cX1_findCapacity 8 = .ok (.istore_n 3, 1) := by decide +kernel
theorem dX1_findCapacity_9 : decode cX1_findCapacity 9 = .ok (.iconst 0, 1) := by decide +kernel
theorem dX1_findCapacity_10 : decode cX1_findCapacity 10 = .ok (.istore 4, 2) := by decide +kernel
theorem dX1_findCapacity_12 : decode cX1_findCapacity 12 = .ok (.iconst 0, 1) := by decide +kernel
theorem dX1_findCapacity_13 : decode cX1_findCapacity 13 = .ok (.istore 5, 2) := by decide +kernel
theorem dX1_findCapacity_15 : decode cX1_findCapacity 15 = .ok (.iload 5, 2) := by decide +kernel
theorem dX1_findCapacity_17 : decode cX1_findCapacity 17 = .ok (.aload_n 1, 1) := by decide +kernel
theorem dX1_findCapacity_18 : decode cX1_findCapacity 18 = .ok (.getfield 70, 3) := by decide +kernel
theorem dX1_findCapacity_21 : decode cX1_findCapacity 21 = .ok (.if_icmp .ge 61, 3) := by decide +kernel
theorem dX1_findCapacity_24 : decode cX1_findCapacity 24 = .ok (.aload_n 1, 1) := by decide +kernel
theorem dX1_findCapacity_25 : decode cX1_findCapacity 25 = .ok (.getfield 109, 3) := by decide +kernel
theorem dX1_findCapacity_28 : decode cX1_findCapacity 28 = .ok (.iload_n 3, 1) := by decide +kernel
theorem dX1_findCapacity_29 : decode cX1_findCapacity 29 = .ok (.invokevirtual 75, 3) := by decide +kernel
theorem dX1_findCapacity_32 : decode cX1_findCapacity 32 = .ok (.aload_n 1, 1) := by decide +kernel
theorem dX1_findCapacity_33 : decode cX1_findCapacity 33 = .ok (.getfield 112, 3) := by decide +kernel
theorem dX1_findCapacity_36 : decode cX1_findCapacity 36 = .ok (.iload 5, 2) := by decide +kernel
theorem dX1_findCapacity_38 : decode cX1_findCapacity 38 = .ok (.invokevirtual 75, 3) := by decide +kernel
theorem dX1_findCapacity_41 : decode cX1_findCapacity 41 = .ok (.isub, 1) := by decide +kernel
theorem dX1_findCapacity_42 : decode cX1_findCapacity 42 = .ok (.istore 6, 2) := by decide +kernel
theorem dX1_findCapacity_44 : decode cX1_findCapacity 44 = .ok (.iload 4, 2) := by decide +kernel
theorem dX1_findCapacity_46 : decode cX1_findCapacity 46 = .ok (.aload_n 0, 1) := by decide +kernel
theorem dX1_findCapacity_47 : decode cX1_findCapacity 47 = .ok (.getfield 14, 3) := by decide +kernel
theorem dX1_findCapacity_50 : decode cX1_findCapacity 50 = .ok (.iload_n 2, 1) := by decide +kernel
theorem dX1_findCapacity_51 : decode cX1_findCapacity 51 = .ok (.invokevirtual 79, 3) := by decide +kernel
theorem dX1_findCapacity_54 : decode cX1_findCapacity 54 = .ok (.iload 5, 2) := by decide +kernel
theorem dX1_findCapacity_56 : decode cX1_findCapacity 56 = .ok (.invokestatic 105, 3) := by decide +kernel
theorem dX1_findCapacity_59 : decode cX1_findCapacity 59 = .ok (.ifCond .eq 13, 3) := by decide +kernel
theorem dX1_findCapacity_62 : decode cX1_findCapacity 62 = .ok (.iload 6, 2) := by decide +kernel
theorem dX1_findCapacity_64 : decode cX1_findCapacity 64 = .ok (.ifCond .le 8, 3) := by decide +kernel
theorem dX1_findCapacity_67 : decode cX1_findCapacity 67 = .ok (.iload 6, 2) := by decide +kernel
theorem dX1_findCapacity_69 : decode cX1_findCapacity 69 = .ok (.goto 4, 3) := by decide +kernel
theorem dX1_findCapacity_72 : decode cX1_findCapacity 72 = .ok (.iconst 0, 1) := by decide +kernel
theorem dX1_findCapacity_73 : decode cX1_findCapacity 73 = .ok (.iadd, 1) := by decide +kernel
theorem dX1_findCapacity_74 : decode cX1_findCapacity 74 = .ok (.istore 4, 2) := by decide +kernel
theorem dX1_findCapacity_76 : decode cX1_findCapacity 76 = .ok (.iinc 5 1, 3) := by decide +kernel
theorem dX1_findCapacity_79 : decode cX1_findCapacity 79 = .ok (.goto (-64), 3) := by decide +kernel
theorem dX1_findCapacity_82 : decode cX1_findCapacity 82 = .ok (.aload_n 0, 1) := by decide +kernel
theorem dX1_findCapacity_83 : decode cX1_findCapacity 83 = .ok (.getfield 27, 3) := by decide +kernel
theorem dX1_findCapacity_86 : decode cX1_findCapacity 86 = .ok (.iload_n 2, 1) := by decide +kernel
theorem dX1_findCapacity_87 : decode cX1_findCapacity 87 = .ok (.iload_n 3, 1) := by decide +kernel
theorem dX1_findCapacity_88 : decode cX1_findCapacity 88 = .ok (.iconst (-1), 1) := by decide +kernel
theorem dX1_findCapacity_89 : decode cX1_findCapacity 89 = .ok (.if_icmp .ne 7, 3) := by decide +kernel
theorem dX1_findCapacity_92 : decode cX1_findCapacity 92 = .ok (.iconst (-1), 1) := by decide +kernel
theorem dX1_findCapacity_93 : decode cX1_findCapacity 93 = .ok (.goto 5, 3) := by decide +kernel
theorem dX1_findCapacity_96 : decode cX1_findCapacity 96 = .ok (.iload 4, 2) := by decide +kernel
theorem dX1_findCapacity_98 : decode cX1_findCapacity 98 = .ok (.invokevirtual 92, 3) := by decide +kernel
theorem dX1_findCapacity_101 : decode cX1_findCapacity 101 = .ok (.return_, 1) := by decide +kernel
theorem dX1_isLowestOfLake_0 : decode cX1_isLowestOfLake 0 = .ok (.aload_n 0, 1) := by decide +kernel
theorem dX1_isLowestOfLake_1 : decode cX1_isLowestOfLake 1 = .ok (.getfield 45, 3) := by decide +kernel
theorem dX1_isLowestOfLake_4 : decode cX1_isLowestOfLake 4 = .ok (.iload_n 1, 1) := by decide +kernel
theorem dX1_isLowestOfLake_5 : decode cX1_isLowestOfLake 5 = .ok (.invokevirtual 75, 3) := by decide +kernel
theorem dX1_isLowestOfLake_8 : decode cX1_isLowestOfLake 8 = .ok (.istore_n 2, 1) := by decide +kernel
theorem dX1_isLowestOfLake_9 : decode cX1_isLowestOfLake 9 = .ok (.iload_n 2, 1) := by decide +kernel
theorem dX1_isLowestOfLake_10 : decode cX1_isLowestOfLake 10 = .ok (.iconst (-1), 1) := by decide +kernel
theorem dX1_isLowestOfLake_11 : decode cX1_isLowestOfLake 11 = .ok (.if_icmp .eq 22, 3) := by decide +kernel
theorem dX1_isLowestOfLake_14 : decode cX1_isLowestOfLake 14 = .ok (.aload_n 0, 1) := by decide +kernel
theorem dX1_isLowestOfLake_15 : decode cX1_isLowestOfLake 15 = .ok (.getfield 14, 3) := by decide +kernel
theorem dX1_isLowestOfLake_18 : decode cX1_isLowestOfLake 18 = .ok (.iload_n 2, 1) := by decide +kernel
theorem dX1_isLowestOfLake_19 : decode cX1_isLowestOfLake 19 = .ok (.invokevirtual 79, 3) := by decide +kernel
theorem dX1_isLowestOfLake_22 : decode cX1_isLowestOfLake 22 = .ok (.invokestatic 115, 3) := by decide +kernel
theorem dX1_isLowestOfLake_25 : decode cX1_isLowestOfLake 25 = .ok (.iload_n 1, 1) := by decide +kernel
theorem dX1_isLowestOfLake_26 : decode cX1_isLowestOfLake 26 = .ok (.if_icmp .ne 7, 3) := by decide +kernel
theorem dX1_isLowestOfLake_29 : decode cX1_isLowestOfLake 29 = .ok (.iconst 1, 1) := by decide +kernel
theorem dX1_isLowestOfLake_30 : decode cX1_isLowestOfLake 30 = .ok (.goto 4, 3) := by decide +kernel
theorem dX1_isLowestOfLake_33 : decode cX1_isLowestOfLake 33 = .ok (.iconst 0, 1) := by decide +kernel
theorem dX1_isLowestOfLake_34 : decode cX1_isLowestOfLake 34 = .ok (.ireturn, 1) := by decide +kernel
theorem dX1_placeOf_0 : decode cX1_placeOf 0 = .ok (.iload_n 1, 1) := by decide +kernel
theorem dX1_placeOf_1 : decode cX1_placeOf 1 = .ok (.istore_n 2, 1) := by decide +kernel
theorem dX1_placeOf_2 : decode cX1_placeOf 2 = .ok (.iconst 0, 1) := by decide +kernel
theorem dX1_placeOf_3 : decode cX1_placeOf 3 = .ok (.istore_n 3, 1) := by decide +kernel
theorem dX1_placeOf_4 : decode cX1_placeOf 4 = .ok (.iload_n 3, 1) := by decide +kernel
theorem dX1_placeOf_5 : decode cX1_placeOf 5 = .ok (.bipush 36, 2) := by decide +kernel
theorem dX1_placeOf_7 : decode cX1_placeOf 7 = .ok (.if_icmp .ge 33, 3) := by decide +kernel
theorem dX1_placeOf_10 : decode cX1_placeOf 10 = .ok (.aload_n 0, 1) := by decide +kernel
theorem dX1_placeOf_11 : decode cX1_placeOf 11 = .ok (.iload_n 3, 1) := by decide +kernel
theorem dX1_placeOf_12 : decode cX1_placeOf 12 = .ok (.invokevirtual 119, 3) := by decide +kernel
theorem dX1_placeOf_15 : decode cX1_placeOf 15 = .ok (.ifCond .eq 19, 3) := by decide +kernel
theorem dX1_placeOf_18 : decode cX1_placeOf 18 = .ok (.iload_n 2, 1) := by decide +kernel
theorem dX1_placeOf_19 : decode cX1_placeOf 19 = .ok (.ifCond .ne 12, 3) := by decide +kernel
theorem dX1_placeOf_22 : decode cX1_placeOf 22 = .ok (.aload_n 0, 1) := by decide +kernel
theorem dX1_placeOf_23 : decode cX1_placeOf 23 = .ok (.getfield 45, 3) := by decide +kernel
theorem dX1_placeOf_26 : decode cX1_placeOf 26 = .ok (.iload_n 3, 1) := by decide +kernel
theorem dX1_placeOf_27 : decode cX1_placeOf 27 = .ok (.invokevirtual 75, 3) := by decide +kernel
theorem dX1_placeOf_30 : decode cX1_placeOf 30 = .ok (.ireturn, 1) := by decide +kernel
theorem dX1_placeOf_31 : decode cX1_placeOf 31 = .ok (.iinc 2 (-1), 3) := by decide +kernel
theorem dX1_placeOf_34 : decode cX1_placeOf 34 = .ok (.iinc 3 1, 3) := by decide +kernel
theorem dX1_placeOf_37 : decode cX1_placeOf 37 = .ok (.goto (-33), 3) := by decide +kernel
theorem dX1_placeOf_40 : decode cX1_placeOf 40 = .ok (.iconst (-1), 1) := by decide +kernel
theorem dX1_placeOf_41 : decode cX1_placeOf 41 = .ok (.ireturn, 1) := by decide +kernel
theorem dX1_numberAt_0 : decode cX1_numberAt 0 = .ok (.aload_n 0, 1) := by decide +kernel
theorem dX1_numberAt_1 : decode cX1_numberAt 1 = .ok (.getfield 45, 3) := by decide +kernel
theorem dX1_numberAt_4 : decode cX1_numberAt 4 = .ok (.iload_n 1, 1) := by decide +kernel
theorem dX1_numberAt_5 : decode cX1_numberAt 5 = .ok (.invokevirtual 75, 3) := by decide +kernel
theorem dX1_numberAt_8 : decode cX1_numberAt 8 = .ok (.istore_n 2, 1) := by decide +kernel
theorem dX1_numberAt_9 : decode cX1_numberAt 9 = .ok (.iload_n 2, 1) := by decide +kernel
theorem dX1_numberAt_10 : decode cX1_numberAt 10 = .ok (.iconst (-1), 1) := by decide +kernel
theorem dX1_numberAt_11 : decode cX1_numberAt 11 = .ok (.if_icmp .ne 5, 3) := by decide +kernel
theorem dX1_numberAt_14 : decode cX1_numberAt 14 = .ok (.iconst (-1), 1) := by decide +kernel
theorem dX1_numberAt_15 : decode cX1_numberAt 15 = .ok (.ireturn, 1) := by decide +kernel
theorem dX1_numberAt_16 : decode cX1_numberAt 16 = .ok (.aload_n 0, 1) := by decide +kernel
theorem dX1_numberAt_17 : decode cX1_numberAt 17 = .ok (.getfield 14, 3) := by decide +kernel
theorem dX1_numberAt_20 : decode cX1_numberAt 20 = .ok (.iload_n 2, 1) := by decide +kernel
theorem dX1_numberAt_21 : decode cX1_numberAt 21 = .ok (.invokevirtual 79, 3) := by decide +kernel
theorem dX1_numberAt_24 : decode cX1_numberAt 24 = .ok (.invokestatic 115, 3) := by decide +kernel
theorem dX1_numberAt_27 : decode cX1_numberAt 27 = .ok (.istore_n 3, 1) := by decide +kernel
theorem dX1_numberAt_28 : decode cX1_numberAt 28 = .ok (.iconst 0, 1) := by decide +kernel
theorem dX1_numberAt_29 : decode cX1_numberAt 29 = .ok (.istore 4, 2) := by decide +kernel
theorem dX1_numberAt_31 : decode cX1_numberAt 31 = .ok (.iconst 0, 1) := by decide +kernel
theorem dX1_numberAt_32 : decode cX1_numberAt 32 = .ok (.istore 5, 2) := by decide +kernel
theorem dX1_numberAt_34 : decode cX1_numberAt 34 = .ok (.iload 5, 2) := by decide +kernel
theorem dX1_numberAt_36 : decode cX1_numberAt 36 = .ok (.iload_n 3, 1) := by decide +kernel
theorem dX1_numberAt_37 : decode cX1_numberAt 37 = .ok (.if_icmp .ge 28, 3) := by decide +kernel
theorem dX1_numberAt_40 : decode cX1_numberAt 40 = .ok (.iload 4, 2) := by decide +kernel
theorem dX1_numberAt_42 : decode cX1_numberAt 42 = .ok (.aload_n 0, 1) := by decide +kernel
theorem dX1_numberAt_43 : decode cX1_numberAt 43 = .ok (.iload 5, 2) := by decide +kernel
theorem dX1_numberAt_45 : decode cX1_numberAt 45 = .ok (.invokevirtual 119, 3) := by decide +kernel
theorem dX1_numberAt_48 : decode cX1_numberAt 48 = .ok (.ifCond .eq 7, 3) := by decide +kernel
theorem dX1_numberAt_51 : decode cX1_numberAt 51 = .ok (.iconst 1, 1) := by decide +kernel
theorem dX1_numberAt_52 : decode cX1_numberAt 52 = .ok (.goto 4, 3) := by decide +kernel
theorem dX1_numberAt_55 : decode cX1_numberAt 55 = .ok (.iconst 0, 1) := by decide +kernel
theorem dX1_numberAt_56 : decode cX1_numberAt 56 = .ok (.iadd, 1) := by decide +kernel
theorem dX1_numberAt_57 : decode cX1_numberAt 57 = .ok (.istore 4, 2) := by decide +kernel
theorem dX1_numberAt_59 : decode cX1_numberAt 59 = .ok (.iinc 5 1, 3) := by decide +kernel
theorem dX1_numberAt_62 : decode cX1_numberAt 62 = .ok (.goto (-28), 3) := by decide +kernel
theorem dX1_numberAt_65 : decode cX1_numberAt 65 = .ok (.iload 4, 2) := by decide +kernel
theorem dX1_numberAt_67 : decode cX1_numberAt 67 = .ok (.ireturn, 1) := by decide +kernel
theorem dX1_total_0 : decode cX1_total 0 = .ok (.iconst 0, 1) := by decide +kernel
theorem dX1_total_1 : decode cX1_total 1 = .ok (.istore_n 1, 1) := by decide +kernel
theorem dX1_total_2 : decode cX1_total 2 = .ok (.iconst 0, 1) := by decide +kernel
theorem dX1_total_3 : decode cX1_total 3 = .ok (.istore_n 2, 1) := by decide +kernel
theorem dX1_total_4 : decode cX1_total 4 = .ok (.iload_n 2, 1) := by decide +kernel
theorem dX1_total_5 : decode cX1_total 5 = .ok (.bipush 36, 2) := by decide +kernel
theorem dX1_total_7 : decode cX1_total 7 = .ok (.if_icmp .ge 25, 3) := by decide +kernel
theorem dX1_total_10 : decode cX1_total 10 = .ok (.iload_n 1, 1) := by decide +kernel
theorem dX1_total_11 : decode cX1_total 11 = .ok (.aload_n 0, 1) := by decide +kernel
theorem dX1_total_12 : decode cX1_total 12 = .ok (.iload_n 2, 1) := by decide +kernel
theorem dX1_total_13 : decode cX1_total 13 = .ok (.invokevirtual 119, 3) := by decide +kernel
theorem dX1_total_16 : decode cX1_total 16 = .ok (.ifCond .eq 7, 3) := by decide +kernel
theorem dX1_total_19 : decode cX1_total 19 = .ok (.iconst 1, 1) := by decide +kernel
theorem dX1_total_20 : decode cX1_total 20 = .ok (.goto 4, 3) := by decide +kernel
theorem dX1_total_23 : decode cX1_total 23 = .ok (.iconst 0, 1) := by decide +kernel
theorem dX1_total_24 : decode cX1_total 24 = .ok (.iadd, 1) := by decide +kernel
theorem dX1_total_25 : decode cX1_total 25 = .ok (.istore_n 1, 1) := by decide +kernel
theorem dX1_total_26 : decode cX1_total 26 = .ok (.iinc 2 1, 3) := by decide +kernel
theorem dX1_total_29 : decode cX1_total 29 = .ok (.goto (-25), 3) := by decide +kernel
theorem dX1_total_32 : decode cX1_total 32 = .ok (.iload_n 1, 1) := by decide +kernel
theorem dX1_total_33 : decode cX1_total 33 = .ok (.ireturn, 1) := by decide +kernel
theorem dX1_fullTotal_0 : decode cX1_fullTotal 0 = .ok (.iconst 0, 1) := by decide +kernel
theorem dX1_fullTotal_1 : decode cX1_fullTotal 1 = .ok (.istore_n 1, 1) := by decide +kernel
theorem dX1_fullTotal_2 : decode cX1_fullTotal 2 = .ok (.iconst 0, 1) := by decide +kernel
theorem dX1_fullTotal_3 : decode cX1_fullTotal 3 = .ok (.istore_n 2, 1) := by decide +kernel
theorem dX1_fullTotal_4 : decode cX1_fullTotal 4 = .ok (.iload_n 2, 1) := by decide +kernel
theorem dX1_fullTotal_5 : decode cX1_fullTotal 5 = .ok (.bipush 36, 2) := by decide +kernel
theorem dX1_fullTotal_7 : decode cX1_fullTotal 7 = .ok (.if_icmp .ge 40, 3) := by decide +kernel
theorem dX1_fullTotal_10 : decode cX1_fullTotal 10 = .ok (.iload_n 1, 1) := by decide +kernel
theorem dX1_fullTotal_11 : decode cX1_fullTotal 11 = .ok (.aload_n 0, 1) := by decide +kernel
theorem dX1_fullTotal_12 : decode cX1_fullTotal 12 = .ok (.iload_n 2, 1) := by decide +kernel
theorem dX1_fullTotal_13 : decode cX1_fullTotal 13 = .ok (.invokevirtual 119, 3) := by decide +kernel
theorem dX1_fullTotal_16 : decode cX1_fullTotal 16 = .ok (.ifCond .eq 22, 3) := by decide +kernel
theorem dX1_fullTotal_19 : decode cX1_fullTotal 19 = .ok (.aload_n 0, 1) := by decide +kernel
theorem dX1_fullTotal_20 : decode cX1_fullTotal 20 = .ok (.aload_n 0, 1) := by decide +kernel
theorem dX1_fullTotal_21 : decode cX1_fullTotal 21 = .ok (.getfield 45, 3) := by decide +kernel
theorem dX1_fullTotal_24 : decode cX1_fullTotal 24 = .ok (.iload_n 2, 1) := by decide +kernel
theorem dX1_fullTotal_25 : decode cX1_fullTotal 25 = .ok (.invokevirtual 75, 3) := by decide +kernel
theorem dX1_fullTotal_28 : decode cX1_fullTotal 28 = .ok (.invokevirtual 123, 3) := by decide +kernel
theorem dX1_fullTotal_31 : decode cX1_fullTotal 31 = .ok (.ifCond .eq 7, 3) := by decide +kernel
theorem dX1_fullTotal_34 : decode cX1_fullTotal 34 = .ok (.iconst 1, 1) := by decide +kernel
theorem dX1_fullTotal_35 : decode cX1_fullTotal 35 = .ok (.goto 4, 3) := by decide +kernel
theorem dX1_fullTotal_38 : decode cX1_fullTotal 38 = .ok (.iconst 0, 1) := by decide +kernel
theorem dX1_fullTotal_39 : decode cX1_fullTotal 39 = .ok (.iadd, 1) := by decide +kernel
theorem dX1_fullTotal_40 : decode cX1_fullTotal 40 = .ok (.istore_n 1, 1) := by decide +kernel
theorem dX1_fullTotal_41 : decode cX1_fullTotal 41 = .ok (.iinc 2 1, 3) := by decide +kernel
theorem dX1_fullTotal_44 : decode cX1_fullTotal 44 = .ok (.goto (-40), 3) := by decide +kernel
theorem dX1_fullTotal_47 : decode cX1_fullTotal 47 = .ok (.iload_n 1, 1) := by decide +kernel
theorem dX1_fullTotal_48 : decode cX1_fullTotal 48 = .ok (.ireturn, 1) := by decide +kernel
theorem dX1_water_0 : decode cX1_water 0 = .ok (.iconst 0, 1) := by decide +kernel
theorem dX1_water_1 : decode cX1_water 1 = .ok (.istore_n 1, 1) := by decide +kernel
theorem dX1_water_2 : decode cX1_water 2 = .ok (.iconst 0, 1) := by decide +kernel
theorem dX1_water_3 : decode cX1_water 3 = .ok (.istore_n 2, 1) := by decide +kernel
theorem dX1_water_4 : decode cX1_water 4 = .ok (.iload_n 2, 1) := by decide +kernel
theorem dX1_water_5 : decode cX1_water 5 = .ok (.bipush 36, 2) := by decide +kernel
theorem dX1_water_7 : decode cX1_water 7 = .ok (.if_icmp .ge 39, 3) := by decide +kernel
theorem dX1_water_10 : decode cX1_water 10 = .ok (.iload_n 1, 1) := by decide +kernel
theorem dX1_water_11 : decode cX1_water 11 = .ok (.aload_n 0, 1) := by decide +kernel
theorem dX1_water_12 : decode cX1_water 12 = .ok (.iload_n 2, 1) := by decide +kernel
theorem dX1_water_13 : decode cX1_water 13 = .ok (.invokevirtual 119, 3) := by decide +kernel
theorem dX1_water_16 : decode cX1_water 16 = .ok (.ifCond .eq 21, 3) := by decide +kernel
theorem dX1_water_19 : decode cX1_water 19 = .ok (.aload_n 0, 1) := by decide +kernel
theorem dX1_water_20 : decode cX1_water 20 = .ok (.getfield 23, 3) := by decide +kernel
theorem dX1_water_23 : decode cX1_water 23 = .ok (.aload_n 0, 1) := by decide +kernel
theorem dX1_water_24 : decode cX1_water 24 = .ok (.getfield 45, 3) := by decide +kernel
theorem dX1_water_27 : decode cX1_water 27 = .ok (.iload_n 2, 1) := by decide +kernel
theorem dX1_water_28 : decode cX1_water 28 = .ok (.invokevirtual 75, 3) := by decide +kernel
theorem dX1_water_31 : decode cX1_water 31 = .ok (.invokevirtual 75, 3) := by decide +kernel
theorem dX1_water_34 : decode cX1_water 34 = .ok (.goto 4, 3) := by decide +kernel
theorem dX1_water_37 : decode cX1_water 37 = .ok (.iconst 0, 1) := by decide +kernel
theorem dX1_water_38 : decode cX1_water 38 = .ok (.iadd, 1) := by decide +kernel
theorem dX1_water_39 : decode cX1_water 39 = .ok (.istore_n 1, 1) := by decide +kernel
theorem dX1_water_40 : decode cX1_water 40 = .ok (.iinc 2 1, 3) := by decide +kernel
theorem dX1_water_43 : decode cX1_water 43 = .ok (.goto (-39), 3) := by decide +kernel
theorem dX1_water_46 : decode cX1_water 46 = .ok (.iload_n 1, 1) := by decide +kernel
theorem dX1_water_47 : decode cX1_water 47 = .ok (.ireturn, 1) := by decide +kernel
theorem dX1_isFull_0 : decode cX1_isFull 0 = .ok (.aload_n 0, 1) := by decide +kernel
theorem dX1_isFull_1 : decode cX1_isFull 1 = .ok (.getfield 30, 3) := by decide +kernel
theorem dX1_isFull_4 : decode cX1_isFull 4 = .ok (.iload_n 1, 1) := by decide +kernel
theorem dX1_isFull_5 : decode cX1_isFull 5 = .ok (.invokevirtual 75, 3) := by decide +kernel
theorem dX1_isFull_8 : decode cX1_isFull 8 = .ok (.iconst (-1), 1) := by decide +kernel
theorem dX1_isFull_9 : decode cX1_isFull 9 = .ok (.if_icmp .eq 26, 3) := by decide +kernel
theorem dX1_isFull_12 : decode cX1_isFull 12 = .ok (.aload_n 0, 1) := by decide +kernel
theorem dX1_isFull_13 : decode cX1_isFull 13 = .ok (.getfield 23, 3) := by decide +kernel
theorem dX1_isFull_16 : decode cX1_isFull 16 = .ok (.iload_n 1, 1) := by decide +kernel
theorem dX1_isFull_17 : decode cX1_isFull 17 = .ok (.invokevirtual 75, 3) := by decide +kernel
theorem dX1_isFull_20 : decode cX1_isFull 20 = .ok (.aload_n 0, 1) := by decide +kernel
theorem dX1_isFull_21 : decode cX1_isFull 21 = .ok (.getfield 27, 3) := by decide +kernel
theorem dX1_isFull_24 : decode cX1_isFull 24 = .ok (.iload_n 1, 1) := by decide +kernel
theorem dX1_isFull_25 : decode cX1_isFull 25 = .ok (.invokevirtual 75, 3) := by decide +kernel
theorem dX1_isFull_28 : decode cX1_isFull 28 = .ok (.if_icmp .ne 7, 3) := by decide +kernel
theorem dX1_isFull_31 : decode cX1_isFull 31 = .ok (.iconst 1, 1) := by decide +kernel
theorem dX1_isFull_32 : decode cX1_isFull 32 = .ok (.goto 4, 3) := by decide +kernel
theorem dX1_isFull_35 : decode cX1_isFull 35 = .ok (.iconst 0, 1) := by decide +kernel
theorem dX1_isFull_36 : decode cX1_isFull 36 = .ok (.ireturn, 1) := by decide +kernel
theorem dX1_lowestPlace_0 : decode cX1_lowestPlace 0 = .ok (.iconst 0, 1) := by decide +kernel
theorem dX1_lowestPlace_1 : decode cX1_lowestPlace 1 = .ok (.istore_n 3, 1) := by decide +kernel
theorem dX1_lowestPlace_2 : decode cX1_lowestPlace 2 = .ok (.iload_n 3, 1) := by decide +kernel
theorem dX1_lowestPlace_3 : decode cX1_lowestPlace 3 = .ok (.aload_n 1, 1) := by decide +kernel
theorem dX1_lowestPlace_4 : decode cX1_lowestPlace 4 = .ok (.getfield 70, 3) := by decide +kernel
theorem dX1_lowestPlace_7 : decode cX1_lowestPlace 7 = .ok (.if_icmp .ge 40, 3) := by decide +kernel
theorem dX1_lowestPlace_10 : decode cX1_lowestPlace 10 = .ok (.aload_n 0, 1) := by decide +kernel
theorem dX1_lowestPlace_11 : decode cX1_lowestPlace 11 = .ok (.getfield 14, 3) := by decide +kernel
theorem dX1_lowestPlace_14 : decode cX1_lowestPlace 14 = .ok (.iload_n 2, 1) := by decide +kernel
theorem dX1_lowestPlace_15 : decode cX1_lowestPlace 15 = .ok (.invokevirtual 79, 3) := by decide +kernel
theorem dX1_lowestPlace_18 : decode cX1_lowestPlace 18 = .ok (.aload_n 1, 1) := by decide +kernel
theorem dX1_lowestPlace_19 : decode cX1_lowestPlace 19 = .ok (.getfield 126, 3) := by decide +kernel
theorem dX1_lowestPlace_22 : decode cX1_lowestPlace 22 = .ok (.iload_n 3, 1) := by decide +kernel
theorem dX1_lowestPlace_23 : decode cX1_lowestPlace 23 = .ok (.invokevirtual 75, 3) := by decide +kernel
theorem dX1_lowestPlace_26 : decode cX1_lowestPlace 26 = .ok (.invokestatic 105, 3) := by decide +kernel
theorem dX1_lowestPlace_29 : decode cX1_lowestPlace 29 = .ok (.ifCond .eq 12, 3) := by decide +kernel
theorem dX1_lowestPlace_32 : decode cX1_lowestPlace 32 = .ok (.aload_n 1, 1) := by decide +kernel
theorem dX1_lowestPlace_33 : decode cX1_lowestPlace 33 = .ok (.getfield 126, 3) := by decide +kernel
theorem dX1_lowestPlace_36 : decode cX1_lowestPlace 36 = .ok (.iload_n 3, 1) := by decide +kernel
theorem dX1_lowestPlace_37 : decode cX1_lowestPlace 37 = .ok (.invokevirtual 75, 3) := by decide +kernel
theorem dX1_lowestPlace_40 : decode cX1_lowestPlace 40 = .ok (.ireturn, 1) := by decide +kernel
theorem dX1_lowestPlace_41 : decode cX1_lowestPlace 41 = .ok (.iinc 3 1, 3) := by decide +kernel
theorem dX1_lowestPlace_44 : decode cX1_lowestPlace 44 = .ok (.goto (-42), 3) := by decide +kernel
theorem dX1_lowestPlace_47 : decode cX1_lowestPlace 47 = .ok (.iconst (-1), 1) := by decide +kernel
theorem dX1_lowestPlace_48 : decode cX1_lowestPlace 48 = .ok (.ireturn, 1) := by decide +kernel
theorem dX1_wetCells_0 : decode cX1_wetCells 0 = .ok (.aload_n 0, 1) := by decide +kernel
theorem dX1_wetCells_1 : decode cX1_wetCells 1 = .ok (.getfield 14, 3) := by decide +kernel
theorem dX1_wetCells_4 : decode cX1_wetCells 4 = .ok (.iload_n 2, 1) := by decide +kernel
theorem dX1_wetCells_5 : decode cX1_wetCells 5 = .ok (.invokevirtual 79, 3) := by decide +kernel
theorem dX1_wetCells_8 : decode cX1_wetCells 8 = .ok (.lstore_n 3, 1) := by decide +kernel
theorem dX1_wetCells_9 : decode cX1_wetCells 9 = .ok (.lconst 0, 1) := by decide +kernel
theorem dX1_wetCells_10 : decode cX1_wetCells 10 = .ok (.lstore 5, 2) := by decide +kernel
theorem dX1_wetCells_12 : decode cX1_wetCells 12 = .ok (.iconst 0, 1) := by decide +kernel
theorem dX1_wetCells_13 : decode cX1_wetCells 13 = .ok (.istore 7, 2) := by decide +kernel
theorem dX1_wetCells_15 : decode cX1_wetCells 15 = .ok (.iconst 0, 1) := by decide +kernel
theorem dX1_wetCells_16 : decode cX1_wetCells 16 = .ok (.istore 8, 2) := by decide +kernel
theorem dX1_wetCells_18 : decode cX1_wetCells 18 = .ok (.iconst 0, 1) := by decide +kernel
theorem dX1_wetCells_19 : decode cX1_wetCells 19 = .ok (.istore 9, 2) := by decide +kernel
theorem dX1_wetCells_21 : decode cX1_wetCells 21 = .ok (.iload 9, 2) := by decide +kernel
theorem dX1_wetCells_23 : decode cX1_wetCells 23 = .ok (.aload_n 1, 1) := by decide +kernel
theorem dX1_wetCells_24 : decode cX1_wetCells 24 = .ok (.getfield 70, 3) := by decide +kernel
theorem dX1_wetCells_27 : decode cX1_wetCells 27 = .ok (.if_icmp .ge 79, 3) := by decide +kernel
theorem dX1_wetCells_30 : decode cX1_wetCells 30 = .ok (.aload_n 1, 1) := by decide +kernel
theorem dX1_wetCells_31 : decode cX1_wetCells 31 = .ok (.getfield 126, 3) := by decide +kernel
theorem dX1_wetCells_34 : decode cX1_wetCells 34 = .ok (.iload 9, 2) := by decide +kernel
theorem dX1_wetCells_36 : decode cX1_wetCells 36 = .ok (.invokevirtual 75, 3) := by decide +kernel
theorem dX1_wetCells_39 : decode cX1_wetCells 39 = .ok (.istore 10, 2) := by decide +kernel
theorem dX1_wetCells_41 : decode cX1_wetCells 41 = .ok (.aload_n 1, 1) := by decide +kernel
theorem dX1_wetCells_42 : decode cX1_wetCells 42 = .ok (.getfield 112, 3) := by decide +kernel
theorem dX1_wetCells_45 : decode cX1_wetCells 45 = .ok (.iload 10, 2) := by decide +kernel
theorem dX1_wetCells_47 : decode cX1_wetCells 47 = .ok (.invokevirtual 75, 3) := by decide +kernel
theorem dX1_wetCells_50 : decode cX1_wetCells 50 = .ok (.istore 11, 2) := by decide +kernel
theorem dX1_wetCells_52 : decode cX1_wetCells 52 = .ok (.lload_n 3, 1) := by decide +kernel
theorem dX1_wetCells_53 : decode cX1_wetCells 53 = .ok (.iload 10, 2) := by decide +kernel
theorem dX1_wetCells_55 : decode cX1_wetCells 55 = .ok (.invokestatic 105, 3) := by decide +kernel
theorem dX1_wetCells_58 : decode cX1_wetCells 58 = .ok (.ifCond .eq 42, 3) := by decide +kernel
theorem dX1_wetCells_61 : decode cX1_wetCells 61 = .ok (.iload 7, 2) := by decide +kernel
theorem dX1_wetCells_63 : decode cX1_wetCells 63 = .ok (.iload 11, 2) := by decide +kernel
theorem dX1_wetCells_65 : decode cX1_wetCells 65 = .ok (.imul, 1) := by decide +kernel
theorem dX1_wetCells_66 : decode cX1_wetCells 66 = .ok (.iload 8, 2) := by decide +kernel
theorem dX1_wetCells_68 : decode cX1_wetCells 68 = .ok (.isub, 1) := by decide +kernel
theorem dX1_wetCells_69 : decode cX1_wetCells 69 = .ok (.aload_n 0, 1) := by decide +kernel
theorem dX1_wetCells_70 : decode cX1_wetCells 70 = .ok (.getfield 23, 3) := by decide +kernel
theorem dX1_wetCells_73 : decode cX1_wetCells 73 = .ok (.iload_n 2, 1) := by decide +kernel
theorem dX1_wetCells_74 : decode cX1_wetCells 74 = .ok (.invokevirtual 75, 3) := by decide +kernel
theorem dX1_wetCells_77 : decode cX1_wetCells 77 = .ok (.if_icmp .ge 23, 3) := by decide +kernel
theorem dX1_wetCells_80 : decode cX1_wetCells 80 = .ok (.lload 5, 2) := by decide +kernel
theorem dX1_wetCells_82 : decode cX1_wetCells 82 = .ok (.iload 10, 2) := by decide +kernel
theorem dX1_wetCells_84 : decode cX1_wetCells 84 = .ok (.invokestatic 82, 3) := by decide +kernel
theorem dX1_wetCells_87 : decode cX1_wetCells 87 = .ok (.lor, 1) := by decide +kernel
theorem dX1_wetCells_88 : decode cX1_wetCells 88 = .ok (.lstore 5, 2) := by decide +kernel
theorem dX1_wetCells_90 : decode cX1_wetCells 90 = .ok (.iinc 7 1, 3) := by decide +kernel
theorem dX1_wetCells_93 : decode cX1_wetCells 93 = .ok (.iload 8, 2) := by decide +kernel
theorem dX1_wetCells_95 : decode cX1_wetCells 95 = .ok (.iload 11, 2) := by decide +kernel
theorem dX1_wetCells_97 : decode cX1_wetCells 97 = .ok (.iadd, 1) := by decide +kernel
theorem dX1_wetCells_98 : decode cX1_wetCells 98 = .ok (.istore 8, 2) := by decide +kernel
theorem dX1_wetCells_100 : decode cX1_wetCells 100 = .ok (.iinc 9 1, 3) := by decide +kernel
theorem dX1_wetCells_103 : decode cX1_wetCells 103 = .ok (.goto (-82), 3) := by decide +kernel
theorem dX1_wetCells_106 : decode cX1_wetCells 106 = .ok (.lload 5, 2) := by decide +kernel
theorem dX1_wetCells_108 : decode cX1_wetCells 108 = .ok (.lreturn, 1) := by decide +kernel
theorem dX1_pourInto_0 : decode cX1_pourInto 0 = .ok (.iload_n 2, 1) := by decide +kernel
theorem dX1_pourInto_1 : decode cX1_pourInto 1 = .ok (.istore 4, 2) := by decide +kernel
theorem dX1_pourInto_3 : decode cX1_pourInto 3 = .ok (.iload_n 3, 1) := by decide +kernel
theorem dX1_pourInto_4 : decode cX1_pourInto 4 = .ok (.istore 5, 2) := by decide +kernel
theorem dX1_pourInto_6 : decode cX1_pourInto 6 = .ok (.iconst 0, 1) := by decide +kernel
theorem dX1_pourInto_7 : decode cX1_pourInto 7 = .ok (.istore 6, 2) := by decide +kernel
theorem dX1_pourInto_9 : decode cX1_pourInto 9 = .ok (.iload 6, 2) := by decide +kernel
theorem dX1_pourInto_11 : decode cX1_pourInto 11 = .ok (.ldc 129, 2) := by decide +kernel
theorem dX1_pourInto_13 : decode cX1_pourInto 13 = .ok (.if_icmp .ge 135, 3) := by decide +kernel
theorem dX1_pourInto_16 : decode cX1_pourInto 16 = .ok (.iload 5, 2) := by decide +kernel
theorem dX1_pourInto_18 : decode cX1_pourInto 18 = .ok (.ifCond .le 130, 3) := by decide +kernel
theorem dX1_pourInto_21 : decode cX1_pourInto 21 = .ok (.iload 5, 2) := by decide +kernel
theorem dX1_pourInto_23 : decode cX1_pourInto 23 = .ok (.aload_n 0, 1) := by decide +kernel
theorem dX1_pourInto_24 : decode cX1_pourInto 24 = .ok (.iload 4, 2) := by decide +kernel
theorem dX1_pourInto_26 : decode cX1_pourInto 26 = .ok (.iload 5, 2) := by decide +kernel
theorem dX1_pourInto_28 : decode cX1_pourInto 28 = .ok (.invokevirtual 130, 3) := by decide +kernel
theorem dX1_pourInto_31 : decode cX1_pourInto 31 = .ok (.isub, 1) := by decide +kernel
theorem dX1_pourInto_32 : decode cX1_pourInto 32 = .ok (.istore 5, 2) := by decide +kernel
theorem dX1_pourInto_34 : decode cX1_pourInto 34 = .ok (.iload 5, 2) := by decide +kernel
theorem dX1_pourInto_36 : decode cX1_pourInto 36 = .ok (.ifCond .le 106, 3) := by decide +kernel
theorem dX1_pourInto_39 : decode cX1_pourInto 39 = .ok (.aload_n 0, 1) := by decide +kernel
theorem dX1_pourInto_40 : decode cX1_pourInto 40 = .ok (.getfield 30, 3) := by decide +kernel
theorem dX1_pourInto_43 : decode cX1_pourInto 43 = .ok (.iload 4, 2) := by decide +kernel
theorem dX1_pourInto_45 : decode cX1_pourInto 45 = .ok (.invokevirtual 75, 3) := by decide +kernel
theorem dX1_pourInto_48 : decode cX1_pourInto 48 = .ok (.istore 7, 2) := by decide +kernel
theorem dX1_pourInto_50 : decode cX1_pourInto 50 = .ok (.aload_n 0, 1) := by decide +kernel
theorem dX1_pourInto_51 : decode cX1_pourInto 51 = .ok (.getfield 45, 3) := by decide +kernel
theorem dX1_pourInto_54 : decode cX1_pourInto 54 = .ok (.aload_n 1, 1) := by decide +kernel
theorem dX1_pourInto_55 : decode cX1_pourInto 55 = .ok (.getfield 102, 3) := by decide +kernel
theorem dX1_pourInto_58 : decode cX1_pourInto 58 = .ok (.iload 7, 2) := by decide +kernel
theorem dX1_pourInto_60 : decode cX1_pourInto 60 = .ok (.invokevirtual 75, 3) := by decide +kernel
theorem dX1_pourInto_63 : decode cX1_pourInto 63 = .ok (.invokevirtual 75, 3) := by decide +kernel
theorem dX1_pourInto_66 : decode cX1_pourInto 66 = .ok (.istore 8, 2) := by decide +kernel
theorem dX1_pourInto_68 : decode cX1_pourInto 68 = .ok (.iload 8, 2) := by decide +kernel
theorem dX1_pourInto_70 : decode cX1_pourInto 70 = .ok (.iconst (-1), 1) := by decide +kernel
theorem dX1_pourInto_71 : decode cX1_pourInto 71 = .ok (.if_icmp .ne 6, 3) := by decide +kernel
theorem dX1_pourInto_74 : decode cX1_pourInto 74 = .ok (.iload 5, 2) := by decide +kernel
theorem dX1_pourInto_76 : decode cX1_pourInto 76 = .ok (.ireturn, 1) := by decide +kernel
theorem dX1_pourInto_77 : decode cX1_pourInto 77 = .ok (.aload_n 0, 1) := by decide +kernel
theorem dX1_pourInto_78 : decode cX1_pourInto 78 = .ok (.iload 8, 2) := by decide +kernel
theorem dX1_pourInto_80 : decode cX1_pourInto 80 = .ok (.invokevirtual 123, 3) := by decide +kernel
theorem dX1_pourInto_83 : decode cX1_pourInto 83 = .ok (.ifCond .eq 35, 3) := by decide +kernel
theorem dX1_pourInto_86 : decode cX1_pourInto 86 = .ok (.aload_n 1, 1) := by decide +kernel
theorem dX1_pourInto_87 : decode cX1_pourInto 87 = .ok (.getfield 109, 3) := by decide +kernel
theorem dX1_pourInto_90 : decode cX1_pourInto 90 = .ok (.aload_n 0, 1) := by decide +kernel
theorem dX1_pourInto_91 : decode cX1_pourInto 91 = .ok (.getfield 30, 3) := by decide +kernel
theorem dX1_pourInto_94 : decode cX1_pourInto 94 = .ok (.iload 8, 2) := by decide +kernel
theorem dX1_pourInto_96 : decode cX1_pourInto 96 = .ok (.invokevirtual 75, 3) := by decide +kernel
theorem dX1_pourInto_99 : decode cX1_pourInto 99 = .ok (.invokevirtual 75, 3) := by decide +kernel
theorem dX1_pourInto_102 : decode cX1_pourInto 102 = .ok (.aload_n 1, 1) := by decide +kernel
theorem dX1_pourInto_103 : decode cX1_pourInto 103 = .ok (.getfield 109, 3) := by decide +kernel
theorem dX1_pourInto_106 : decode cX1_pourInto 106 = .ok (.iload 7, 2) := by decide +kernel
theorem dX1_pourInto_108 : decode cX1_pourInto 108 = .ok (.invokevirtual 75, 3) := by decide +kernel
theorem dX1_pourInto_111 : decode cX1_pourInto 111 = .ok (.if_icmp .ne 7, 3) := by decide +kernel
theorem dX1_pourInto_114 : decode cX1_pourInto 114 = .ok (.iconst 1, 1) := by decide +kernel
theorem dX1_pourInto_115 : decode cX1_pourInto 115 = .ok (.goto 4, 3) := by decide +kernel
theorem dX1_pourInto_118 : decode cX1_pourInto 118 = .ok (.iconst 0, 1) := by decide +kernel
theorem dX1_pourInto_119 : decode cX1_pourInto 119 = .ok (.istore 9, 2) := by decide +kernel
theorem dX1_pourInto_121 : decode cX1_pourInto 121 = .ok (.iload 9, 2) := by decide +kernel
theorem dX1_pourInto_123 : decode cX1_pourInto 123 = .ok (.ifCond .eq 15, 3) := by decide +kernel
theorem dX1_pourInto_126 : decode cX1_pourInto 126 = .ok (.aload_n 0, 1) := by decide +kernel
theorem dX1_pourInto_127 : decode cX1_pourInto 127 = .ok (.aload_n 1, 1) := by decide +kernel
theorem dX1_pourInto_128 : decode cX1_pourInto 128 = .ok (.iload 4, 2) := by decide +kernel
theorem dX1_pourInto_130 : decode cX1_pourInto 130 = .ok (.iload 8, 2) := by decide +kernel
theorem dX1_pourInto_132 : decode cX1_pourInto 132 = .ok (.invokevirtual 133, 3) := by decide +kernel
theorem dX1_pourInto_135 : decode cX1_pourInto 135 = .ok (.goto 5, 3) := by decide +kernel
theorem dX1_pourInto_138 : decode cX1_pourInto 138 = .ok (.iload 8, 2) := by decide +kernel
theorem dX1_pourInto_140 : decode cX1_pourInto 140 = .ok (.istore 4, 2) := by decide +kernel
theorem dX1_pourInto_142 : decode cX1_pourInto 142 = .ok (.iinc 6 1, 3) := by decide +kernel
theorem dX1_pourInto_145 : decode cX1_pourInto 145 = .ok (.goto (-136), 3) := by decide +kernel
theorem dX1_pourInto_148 : decode cX1_pourInto 148 = .ok (.iconst 0, 1) := by decide +kernel
theorem dX1_pourInto_149 : decode cX1_pourInto 149 = .ok (.ireturn, 1) := by decide +kernel
theorem dX1_fill_0 : decode cX1_fill 0 = .ok (.aload_n 0, 1) := by decide +kernel
theorem dX1_fill_1 : decode cX1_fill 1 = .ok (.getfield 23, 3) := by decide +kernel
theorem dX1_fill_4 : decode cX1_fill 4 = .ok (.iload_n 1, 1) := by decide +kernel
theorem dX1_fill_5 : decode cX1_fill 5 = .ok (.invokevirtual 75, 3) := by decide +kernel
theorem dX1_fill_8 : decode cX1_fill 8 = .ok (.istore_n 3, 1) := by decide +kernel
theorem dX1_fill_9 : decode cX1_fill 9 = .ok (.aload_n 0, 1) := by decide +kernel
theorem dX1_fill_10 : decode cX1_fill 10 = .ok (.getfield 30, 3) := by decide +kernel
theorem dX1_fill_13 : decode cX1_fill 13 = .ok (.iload_n 1, 1) := by decide +kernel
theorem dX1_fill_14 : decode cX1_fill 14 = .ok (.invokevirtual 75, 3) := by decide +kernel
theorem dX1_fill_17 : decode cX1_fill 17 = .ok (.iconst (-1), 1) := by decide +kernel
theorem dX1_fill_18 : decode cX1_fill 18 = .ok (.if_icmp .ne 7, 3) := by decide +kernel
theorem dX1_fill_21 : decode cX1_fill 21 = .ok (.iload_n 2, 1) := by decide +kernel
theorem dX1_fill_22 : decode cX1_fill 22 = .ok (.goto 17, 3) := by decide +kernel
theorem dX1_fill_25 : decode cX1_fill 25 = .ok (.iload_n 2, 1) := by decide +kernel
theorem dX1_fill_26 : decode cX1_fill 26 = .ok (.aload_n 0, 1) := by decide +kernel
theorem dX1_fill_27 : decode cX1_fill 27 = .ok (.getfield 27, 3) := by decide +kernel
theorem dX1_fill_30 : decode cX1_fill 30 = .ok (.iload_n 1, 1) := by decide +kernel
theorem dX1_fill_31 : decode cX1_fill 31 = .ok (.invokevirtual 75, 3) := by decide +kernel
theorem dX1_fill_34 : decode cX1_fill 34 = .ok (.iload_n 3, 1) := by decide +kernel
theorem dX1_fill_35 : decode cX1_fill 35 = .ok (.isub, 1) := by decide +kernel
theorem dX1_fill_36 : decode cX1_fill 36 = .ok (.invokestatic 137, 3) := by decide +kernel
theorem dX1_fill_39 : decode cX1_fill 39 = .ok (.istore 4, 2) := by decide +kernel
theorem dX1_fill_41 : decode cX1_fill 41 = .ok (.aload_n 0, 1) := by decide +kernel
theorem dX1_fill_42 : decode cX1_fill 42 = .ok (.getfield 23, 3) := by decide +kernel
theorem dX1_fill_45 : decode cX1_fill 45 = .ok (.iload_n 1, 1) := by decide +kernel
theorem dX1_fill_46 : decode cX1_fill 46 = .ok (.iload_n 3, 1) := by decide +kernel
theorem dX1_fill_47 : decode cX1_fill 47 = .ok (.iload 4, 2) := by decide +kernel
theorem dX1_fill_49 : decode cX1_fill 49 = .ok (.iadd, 1) := by decide +kernel
theorem dX1_fill_50 : decode cX1_fill 50 = .ok (.invokevirtual 92, 3) := by decide +kernel
theorem dX1_fill_53 : decode cX1_fill 53 = .ok (.iload 4, 2) := by decide +kernel
theorem dX1_fill_55 : decode cX1_fill 55 = .ok (.ireturn, 1) := by decide +kernel
theorem dX1_join_0 : decode cX1_join 0 = .ok (.aload_n 0, 1) := by decide +kernel
theorem dX1_join_1 : decode cX1_join 1 = .ok (.invokevirtual 142, 3) := by decide +kernel
theorem dX1_join_4 : decode cX1_join 4 = .ok (.istore 4, 2) := by decide +kernel
theorem dX1_join_6 : decode cX1_join 6 = .ok (.aload_n 0, 1) := by decide +kernel
theorem dX1_join_7 : decode cX1_join 7 = .ok (.getfield 14, 3) := by decide +kernel
theorem dX1_join_10 : decode cX1_join 10 = .ok (.iload_n 2, 1) := by decide +kernel
theorem dX1_join_11 : decode cX1_join 11 = .ok (.invokevirtual 79, 3) := by decide +kernel
theorem dX1_join_14 : decode cX1_join 14 = .ok (.invokestatic 115, 3) := by decide +kernel
theorem dX1_join_17 : decode cX1_join 17 = .ok (.aload_n 0, 1) := by decide +kernel
theorem dX1_join_18 : decode cX1_join 18 = .ok (.getfield 14, 3) := by decide +kernel
theorem dX1_join_21 : decode cX1_join 21 = .ok (.iload_n 3, 1) := by decide +kernel
theorem dX1_join_22 : decode cX1_join 22 = .ok (.invokevirtual 79, 3) := by decide +kernel
theorem dX1_join_25 : decode cX1_join 25 = .ok (.invokestatic 115, 3) := by decide +kernel
theorem dX1_join_28 : decode cX1_join 28 = .ok (.if_icmp .ge 7, 3) := by decide +kernel
theorem dX1_join_31 : decode cX1_join 31 = .ok (.iconst 1, 1) := by decide +kernel
theorem dX1_join_32 : decode cX1_join 32 = .ok (.goto 4, 3) := by decide +kernel
theorem dX1_join_35 : decode cX1_join 35 = .ok (.iconst 0, 1) := by decide +kernel
theorem dX1_join_36 : decode cX1_join 36 = .ok (.istore 5, 2) := by decide +kernel
theorem dX1_join_38 : decode cX1_join 38 = .ok (.aload_n 0, 1) := by decide +kernel
theorem dX1_join_39 : decode cX1_join 39 = .ok (.getfield 39, 3) := by decide +kernel
theorem dX1_join_42 : decode cX1_join 42 = .ok (.iload 4, 2) := by decide +kernel
theorem dX1_join_44 : decode cX1_join 44 = .ok (.iload 5, 2) := by decide +kernel
theorem dX1_join_46 : decode cX1_join 46 = .ok (.ifCond .eq 7, 3) := by decide +kernel
theorem dX1_join_49 : decode cX1_join 49 = .ok (.iload_n 2, 1) := by decide +kernel
theorem dX1_join_50 : decode cX1_join 50 = .ok (.goto 4, 3) := by decide +kernel
theorem dX1_join_53 : decode cX1_join 53 = .ok (.iload_n 3, 1) := by decide +kernel
theorem dX1_join_54 : decode cX1_join 54 = .ok (.invokevirtual 92, 3) := by decide +kernel
theorem dX1_join_57 : decode cX1_join 57 = .ok (.aload_n 0, 1) := by decide +kernel
theorem dX1_join_58 : decode cX1_join 58 = .ok (.getfield 42, 3) := by decide +kernel
theorem dX1_join_61 : decode cX1_join 61 = .ok (.iload 4, 2) := by decide +kernel
theorem dX1_join_63 : decode cX1_join 63 = .ok (.iload 5, 2) := by decide +kernel
theorem dX1_join_65 : decode cX1_join 65 = .ok (.ifCond .eq 7, 3) := by decide +kernel
theorem dX1_join_68 : decode cX1_join 68 = .ok (.iload_n 3, 1) := by decide +kernel
theorem dX1_join_69 : decode cX1_join 69 = .ok (.goto 4, 3) := by decide +kernel
theorem dX1_join_72 : decode cX1_join 72 = .ok (.iload_n 2, 1) := by decide +kernel
theorem dX1_join_73 : decode cX1_join 73 = .ok (.invokevirtual 92, 3) := by decide +kernel
theorem dX1_join_76 : decode cX1_join 76 = .ok (.aload_n 0, 1) := by decide +kernel
theorem dX1_join_77 : decode cX1_join 77 = .ok (.getfield 14, 3) := by decide +kernel
theorem dX1_join_80 : decode cX1_join 80 = .ok (.iload 4, 2) := by decide +kernel
theorem dX1_join_82 : decode cX1_join 82 = .ok (.aload_n 0, 1) := by decide +kernel
theorem dX1_join_83 : decode cX1_join 83 = .ok (.getfield 14, 3) := by decide +kernel
theorem dX1_join_86 : decode cX1_join 86 = .ok (.iload_n 2, 1) := by decide +kernel
theorem dX1_join_87 : decode cX1_join 87 = .ok (.invokevirtual 79, 3) := by decide +kernel
theorem dX1_join_90 : decode cX1_join 90 = .ok (.aload_n 0, 1) := by decide +kernel
theorem dX1_join_91 : decode cX1_join 91 = .ok (.getfield 14, 3) := by decide +kernel
theorem dX1_join_94 : decode cX1_join 94 = .ok (.iload_n 3, 1) := by decide +kernel
theorem dX1_join_95 : decode cX1_join 95 = .ok (.invokevirtual 79, 3) := by decide +kernel
theorem dX1_join_98 : decode cX1_join 98 = .ok (.lor, 1) := by decide +kernel
theorem dX1_join_99 : decode cX1_join 99 = .ok (.invokevirtual 85, 3) := by decide +kernel
theorem dX1_join_102 : decode cX1_join 102 = .ok (.aload_n 0, 1) := by decide +kernel
theorem dX1_join_103 : decode cX1_join 103 = .ok (.getfield 23, 3) := by decide +kernel
theorem dX1_join_106 : decode cX1_join 106 = .ok (.iload 4, 2) := by decide +kernel
theorem dX1_join_108 : decode cX1_join 108 = .ok (.aload_n 0, 1) := by decide +kernel
theorem dX1_join_109 : decode cX1_join 109 = .ok (.getfield 23, 3) := by decide +kernel
theorem dX1_join_112 : decode cX1_join 112 = .ok (.iload_n 2, 1) := by decide +kernel
theorem dX1_join_113 : decode cX1_join 113 = .ok (.invokevirtual 75, 3) := by decide +kernel
theorem dX1_join_116 : decode cX1_join 116 = .ok (.aload_n 0, 1) := by decide +kernel
theorem dX1_join_117 : decode cX1_join 117 = .ok (.getfield 23, 3) := by decide +kernel
theorem dX1_join_120 : decode cX1_join 120 = .ok (.iload_n 3, 1) := by decide +kernel
theorem dX1_join_121 : decode cX1_join 121 = .ok (.invokevirtual 75, 3) := by decide +kernel
theorem dX1_join_124 : decode cX1_join 124 = .ok (.iadd, 1) := by decide +kernel
theorem dX1_join_125 : decode cX1_join 125 = .ok (.invokevirtual 92, 3) := by decide +kernel
theorem dX1_join_128 : decode cX1_join 128 = .ok (.aload_n 0, 1) := by decide +kernel
theorem dX1_join_129 : decode cX1_join 129 = .ok (.getfield 33, 3) := by decide +kernel
theorem dX1_join_132 : decode cX1_join 132 = .ok (.iload 4, 2) := by decide +kernel
theorem dX1_join_134 : decode cX1_join 134 = .ok (.aload_n 0, 1) := by decide +kernel
theorem dX1_join_135 : decode cX1_join 135 = .ok (.getfield 27, 3) := by decide +kernel
theorem dX1_join_138 : decode cX1_join 138 = .ok (.iload_n 2, 1) := by decide +kernel
theorem dX1_join_139 : decode cX1_join 139 = .ok (.invokevirtual 75, 3) := by decide +kernel
theorem dX1_join_142 : decode cX1_join 142 = .ok (.aload_n 0, 1) := by decide +kernel
theorem dX1_join_143 : decode cX1_join 143 = .ok (.getfield 27, 3) := by decide +kernel
theorem dX1_join_146 : decode cX1_join 146 = .ok (.iload_n 3, 1) := by decide +kernel
theorem dX1_join_147 : decode cX1_join 147 = .ok (.invokevirtual 75, 3) := by decide +kernel
theorem dX1_join_150 : decode cX1_join 150 = .ok (.iadd, 1) := by decide +kernel
theorem dX1_join_151 : decode cX1_join 151 = .ok (.invokevirtual 92, 3) := by decide +kernel
theorem dX1_join_154 : decode cX1_join 154 = .ok (.aload_n 0, 1) := by decide +kernel
theorem dX1_join_155 : decode cX1_join 155 = .ok (.getfield 36, 3) := by decide +kernel
theorem dX1_join_158 : decode cX1_join 158 = .ok (.iload 4, 2) := by decide +kernel
theorem dX1_join_160 : decode cX1_join 160 = .ok (.aload_n 0, 1) := by decide +kernel
theorem dX1_join_161 : decode cX1_join 161 = .ok (.getfield 36, 3) := by decide +kernel
theorem dX1_join_164 : decode cX1_join 164 = .ok (.iload_n 2, 1) := by decide +kernel
theorem dX1_join_165 : decode cX1_join 165 = .ok (.invokevirtual 75, 3) := by decide +kernel
theorem dX1_join_168 : decode cX1_join 168 = .ok (.aload_n 0, 1) := by decide +kernel
theorem dX1_join_169 : decode cX1_join 169 = .ok (.getfield 36, 3) := by decide +kernel
theorem dX1_join_172 : decode cX1_join 172 = .ok (.iload_n 3, 1) := by decide +kernel
theorem dX1_join_173 : decode cX1_join 173 = .ok (.invokevirtual 75, 3) := by decide +kernel
theorem dX1_join_176 : decode cX1_join 176 = .ok (.iadd, 1) := by decide +kernel
theorem dX1_join_177 : decode cX1_join 177 = .ok (.invokevirtual 92, 3) := by decide +kernel
theorem dX1_join_180 : decode cX1_join 180 = .ok (.aload_n 0, 1) := by decide +kernel
theorem dX1_join_181 : decode cX1_join 181 = .ok (.aload_n 1, 1) := by decide +kernel
theorem dX1_join_182 : decode cX1_join 182 = .ok (.iload 4, 2) := by decide +kernel
theorem dX1_join_184 : decode cX1_join 184 = .ok (.invokevirtual 95, 3) := by decide +kernel
theorem dX1_join_187 : decode cX1_join 187 = .ok (.aload_n 0, 1) := by decide +kernel
theorem dX1_join_188 : decode cX1_join 188 = .ok (.aload_n 1, 1) := by decide +kernel
theorem dX1_join_189 : decode cX1_join 189 = .ok (.iload 4, 2) := by decide +kernel
theorem dX1_join_191 : decode cX1_join 191 = .ok (.invokevirtual 99, 3) := by decide +kernel
theorem dX1_join_194 : decode cX1_join 194 = .ok (.aload_n 0, 1) := by decide +kernel
theorem dX1_join_195 : decode cX1_join 195 = .ok (.iload 4, 2) := by decide +kernel
theorem dX1_join_197 : decode cX1_join 197 = .ok (.invokevirtual 146, 3) := by decide +kernel
theorem dX1_join_200 : decode cX1_join 200 = .ok (.iload 4, 2) := by decide +kernel
theorem dX1_join_202 : decode cX1_join 202 = .ok (.ireturn, 1) := by decide +kernel
theorem dX1_freePlace_0 : decode cX1_freePlace 0 = .ok (.iconst 0, 1) := by decide +kernel
theorem dX1_freePlace_1 : decode cX1_freePlace 1 = .ok (.istore_n 1, 1) := by decide +kernel
theorem dX1_freePlace_2 : decode cX1_freePlace 2 = .ok (.iload_n 1, 1) := by decide +kernel
theorem dX1_freePlace_3 : decode cX1_freePlace 3 = .ok (.bipush 71, 2) := by decide +kernel
theorem dX1_freePlace_5 : decode cX1_freePlace 5 = .ok (.if_icmp .ge 24, 3) := by decide +kernel
theorem dX1_freePlace_8 : decode cX1_freePlace 8 = .ok (.aload_n 0, 1) := by decide +kernel
theorem dX1_freePlace_9 : decode cX1_freePlace 9 = .ok (.getfield 14, 3) := by decide +kernel
theorem dX1_freePlace_12 : decode cX1_freePlace 12 = .ok (.iload_n 1, 1) := by decide +kernel
theorem dX1_freePlace_13 : decode cX1_freePlace 13 = .ok (.invokevirtual 79, 3) := by decide +kernel
theorem dX1_freePlace_16 : decode cX1_freePlace 16 = .ok (.lconst 0, 1) := by decide +kernel
theorem dX1_freePlace_17 : decode cX1_freePlace 17 = .ok (.lcmp, 1) := by decide +kernel
theorem dX1_freePlace_18 : decode cX1_freePlace 18 = .ok (.ifCond .ne 5, 3) := by decide +kernel
theorem dX1_freePlace_21 : decode cX1_freePlace 21 = .ok (.iload_n 1, 1) := by decide +kernel
theorem dX1_freePlace_22 : decode cX1_freePlace 22 = .ok (.ireturn, 1) := by decide +kernel
theorem dX1_freePlace_23 : decode cX1_freePlace 23 = .ok (.iinc 1 1, 3) := by decide +kernel
theorem dX1_freePlace_26 : decode cX1_freePlace 26 = .ok (.goto (-24), 3) := by decide +kernel
theorem dX1_freePlace_29 : decode cX1_freePlace 29 = .ok (.iconst (-1), 1) := by decide +kernel
theorem dX1_freePlace_30 : decode cX1_freePlace 30 = .ok (.ireturn, 1) := by decide +kernel
theorem dX1_claimCells_0 : decode cX1_claimCells 0 = .ok (.iconst 0, 1) := by decide +kernel
theorem dX1_claimCells_1 : decode cX1_claimCells 1 = .ok (.istore_n 2, 1) := by decide +kernel
theorem dX1_claimCells_2 : decode cX1_claimCells 2 = .ok (.iload_n 2, 1) := by decide +kernel
theorem dX1_claimCells_3 : decode cX1_claimCells 3 = .ok (.bipush 36, 2) := by decide +kernel
theorem dX1_claimCells_5 : decode cX1_claimCells 5 = .ok (.if_icmp .ge 33, 3) := by decide +kernel
theorem dX1_claimCells_8 : decode cX1_claimCells 8 = .ok (.aload_n 0, 1) := by decide +kernel
theorem dX1_claimCells_9 : decode cX1_claimCells 9 = .ok (.getfield 14, 3) := by decide +kernel
theorem dX1_claimCells_12 : decode cX1_claimCells 12 = .ok (.iload_n 1, 1) := by decide +kernel
theorem dX1_claimCells_13 : decode cX1_claimCells 13 = .ok (.invokevirtual 79, 3) := by decide +kernel
theorem dX1_claimCells_16 : decode cX1_claimCells 16 = .ok (.iload_n 2, 1) := by decide +kernel
theorem dX1_claimCells_17 : decode cX1_claimCells 17 = .ok (.invokestatic 105, 3) := by decide +kernel
theorem dX1_claimCells_20 : decode cX1_claimCells 20 = .ok (.ifCond .eq 12, 3) := by decide +kernel
theorem dX1_claimCells_23 : decode cX1_claimCells 23 = .ok (.aload_n 0, 1) := by decide +kernel
theorem dX1_claimCells_24 : decode cX1_claimCells 24 = .ok (.getfield 45, 3) := by decide +kernel
theorem dX1_claimCells_27 : decode cX1_claimCells 27 = .ok (.iload_n 2, 1) := by decide +kernel
theorem dX1_claimCells_28 : decode cX1_claimCells 28 = .ok (.iload_n 1, 1) := by decide +kernel
theorem dX1_claimCells_29 : decode cX1_claimCells 29 = .ok (.invokevirtual 92, 3) := by decide +kernel
theorem dX1_claimCells_32 : decode cX1_claimCells 32 = .ok (.iinc 2 1, 3) := by decide +kernel
theorem dX1_claimCells_35 : decode cX1_claimCells 35 = .ok (.goto (-33), 3) := by decide +kernel
theorem dX1_claimCells_38 : decode cX1_claimCells 38 = .ok (.return_, 1) := by decide +kernel
theorem dX1_draw_0 : decode cX1_draw 0 = .ok (.aload_n 0, 1) := by decide +kernel
theorem dX1_draw_1 : decode cX1_draw 1 = .ok (.getfield 48, 3) := by decide +kernel
theorem dX1_draw_4 : decode cX1_draw 4 = .ok (.iconst 0, 1) := by decide +kernel
theorem dX1_draw_5 : decode cX1_draw 5 = .ok (.iload_n 1, 1) := by decide +kernel
theorem dX1_draw_6 : decode cX1_draw 6 = .ok (.invokevirtual 92, 3) := by decide +kernel
theorem dX1_draw_9 : decode cX1_draw 9 = .ok (.aload_n 0, 1) := by decide +kernel
theorem dX1_draw_10 : decode cX1_draw 10 = .ok (.getfield 51, 3) := by decide +kernel
theorem dX1_draw_13 : decode cX1_draw 13 = .ok (.iconst 0, 1) := by decide +kernel
theorem dX1_draw_14 : decode cX1_draw 14 = .ok (.iload_n 2, 1) := by decide +kernel
theorem dX1_draw_15 : decode cX1_draw 15 = .ok (.invokevirtual 92, 3) := by decide +kernel
theorem dX1_draw_18 : decode cX1_draw 18 = .ok (.iconst 1, 1) := by decide +kernel
theorem dX1_draw_19 : decode cX1_draw 19 = .ok (.istore_n 3, 1) := by decide +kernel
theorem dX1_draw_20 : decode cX1_draw 20 = .ok (.iconst 0, 1) := by decide +kernel
theorem dX1_draw_21 : decode cX1_draw 21 = .ok (.istore 4, 2) := by decide +kernel
theorem dX1_draw_23 : decode cX1_draw 23 = .ok (.iload 4, 2) := by decide +kernel
theorem dX1_draw_25 : decode cX1_draw 25 = .ok (.bipush 71, 2) := by decide +kernel
theorem dX1_draw_27 : decode cX1_draw 27 = .ok (.if_icmp .ge 172, 3) := by decide +kernel
theorem dX1_draw_30 : decode cX1_draw 30 = .ok (.iload_n 3, 1) := by decide +kernel
theorem dX1_draw_31 : decode cX1_draw 31 = .ok (.ifCond .le 168, 3) := by decide +kernel
theorem dX1_draw_34 : decode cX1_draw 34 = .ok (.iinc 3 (-1), 3) := by decide +kernel
theorem dX1_draw_37 : decode cX1_draw 37 = .ok (.aload_n 0, 1) := by decide +kernel
theorem dX1_draw_38 : decode cX1_draw 38 = .ok (.getfield 48, 3) := by decide +kernel
theorem dX1_draw_41 : decode cX1_draw 41 = .ok (.iload_n 3, 1) := by decide +kernel
theorem dX1_draw_42 : decode cX1_draw 42 = .ok (.invokevirtual 75, 3) := by decide +kernel
theorem dX1_draw_45 : decode cX1_draw 45 = .ok (.istore 5, 2) := by decide +kernel
theorem dX1_draw_47 : decode cX1_draw 47 = .ok (.aload_n 0, 1) := by decide +kernel
theorem dX1_draw_48 : decode cX1_draw 48 = .ok (.getfield 23, 3) := by decide +kernel
theorem dX1_draw_51 : decode cX1_draw 51 = .ok (.iload 5, 2) := by decide +kernel
theorem dX1_draw_53 : decode cX1_draw 53 = .ok (.invokevirtual 75, 3) := by decide +kernel
theorem dX1_draw_56 : decode cX1_draw 56 = .ok (.aload_n 0, 1) := by decide +kernel
theorem dX1_draw_57 : decode cX1_draw 57 = .ok (.getfield 51, 3) := by decide +kernel
theorem dX1_draw_60 : decode cX1_draw 60 = .ok (.iload_n 3, 1) := by decide +kernel
theorem dX1_draw_61 : decode cX1_draw 61 = .ok (.invokevirtual 75, 3) := by decide +kernel
theorem dX1_draw_64 : decode cX1_draw 64 = .ok (.isub, 1) := by decide +kernel
theorem dX1_draw_65 : decode cX1_draw 65 = .ok (.istore 6, 2) := by decide +kernel
theorem dX1_draw_67 : decode cX1_draw 67 = .ok (.aload_n 0, 1) := by decide +kernel
theorem dX1_draw_68 : decode cX1_draw 68 = .ok (.getfield 33, 3) := by decide +kernel
theorem dX1_draw_71 : decode cX1_draw 71 = .ok (.iload 5, 2) := by decide +kernel
theorem dX1_draw_73 : decode cX1_draw 73 = .ok (.invokevirtual 75, 3) := by decide +kernel
theorem dX1_draw_76 : decode cX1_draw 76 = .ok (.iload 6, 2) := by decide +kernel
theorem dX1_draw_78 : decode cX1_draw 78 = .ok (.isub, 1) := by decide +kernel
theorem dX1_draw_79 : decode cX1_draw 79 = .ok (.istore 7, 2) := by decide +kernel
theorem dX1_draw_81 : decode cX1_draw 81 = .ok (.iload 7, 2) := by decide +kernel
theorem dX1_draw_83 : decode cX1_draw 83 = .ok (.ifCond .le 99, 3) := by decide +kernel
theorem dX1_draw_86 : decode cX1_draw 86 = .ok (.aload_n 0, 1) := by decide +kernel
theorem dX1_draw_87 : decode cX1_draw 87 = .ok (.iload 5, 2) := by decide +kernel
theorem dX1_draw_89 : decode cX1_draw 89 = .ok (.invokevirtual 149, 3) := by decide +kernel
theorem dX1_draw_92 : decode cX1_draw 92 = .ok (.iload 7, 2) := by decide +kernel
theorem dX1_draw_94 : decode cX1_draw 94 = .ok (.aload_n 0, 1) := by decide +kernel
theorem dX1_draw_95 : decode cX1_draw 95 = .ok (.getfield 23, 3) := by decide +kernel
theorem dX1_draw_98 : decode cX1_draw 98 = .ok (.aload_n 0, 1) := by decide +kernel
theorem dX1_draw_99 : decode cX1_draw 99 = .ok (.getfield 39, 3) := by decide +kernel
theorem dX1_draw_102 : decode cX1_draw 102 = .ok (.iload 5, 2) := by decide +kernel
theorem dX1_draw_104 : decode cX1_draw 104 = .ok (.invokevirtual 75, 3) := by decide +kernel
theorem dX1_draw_107 : decode cX1_draw 107 = .ok (.invokevirtual 75, 3) := by decide +kernel
theorem dX1_draw_110 : decode cX1_draw 110 = .ok (.invokestatic 137, 3) := by decide +kernel
theorem dX1_draw_113 : decode cX1_draw 113 = .ok (.istore 8, 2) := by decide +kernel
theorem dX1_draw_115 : decode cX1_draw 115 = .ok (.aload_n 0, 1) := by decide +kernel
theorem dX1_draw_116 : decode cX1_draw 116 = .ok (.getfield 48, 3) := by decide +kernel
theorem dX1_draw_119 : decode cX1_draw 119 = .ok (.iload_n 3, 1) := by decide +kernel
theorem dX1_draw_120 : decode cX1_draw 120 = .ok (.aload_n 0, 1) := by decide +kernel
theorem dX1_draw_121 : decode cX1_draw 121 = .ok (.getfield 39, 3) := by decide +kernel
theorem dX1_draw_124 : decode cX1_draw 124 = .ok (.iload 5, 2) := by decide +kernel
theorem dX1_draw_126 : decode cX1_draw 126 = .ok (.invokevirtual 75, 3) := by decide +kernel
theorem dX1_draw_129 : decode cX1_draw 129 = .ok (.invokevirtual 92, 3) := by decide +kernel
theorem dX1_draw_132 : decode cX1_draw 132 = .ok (.aload_n 0, 1) := by decide +kernel
theorem dX1_draw_133 : decode cX1_draw 133 = .ok (.getfield 51, 3) := by decide +kernel
theorem dX1_draw_136 : decode cX1_draw 136 = .ok (.iload_n 3, 1) := by decide +kernel
theorem dX1_draw_137 : decode cX1_draw 137 = .ok (.iload 8, 2) := by decide +kernel
theorem dX1_draw_139 : decode cX1_draw 139 = .ok (.invokevirtual 92, 3) := by decide +kernel
theorem dX1_draw_142 : decode cX1_draw 142 = .ok (.aload_n 0, 1) := by decide +kernel
theorem dX1_draw_143 : decode cX1_draw 143 = .ok (.getfield 48, 3) := by decide +kernel
theorem dX1_draw_146 : decode cX1_draw 146 = .ok (.iload_n 3, 1) := by decide +kernel
theorem dX1_draw_147 : decode cX1_draw 147 = .ok (.iconst 1, 1) := by decide +kernel
theorem dX1_draw_148 : decode cX1_draw 148 = .ok (.iadd, 1) := by decide +kernel
theorem dX1_draw_149 : decode cX1_draw 149 = .ok (.aload_n 0, 1) := by decide +kernel
theorem dX1_draw_150 : decode cX1_draw 150 = .ok (.getfield 42, 3) := by decide +kernel
theorem dX1_draw_153 : decode cX1_draw 153 = .ok (.iload 5, 2) := by decide +kernel
theorem dX1_draw_155 : decode cX1_draw 155 = .ok (.invokevirtual 75, 3) := by decide +kernel
theorem dX1_draw_158 : decode cX1_draw 158 = .ok (.invokevirtual 92, 3) := by decide +kernel
theorem dX1_draw_161 : decode cX1_draw 161 = .ok (.aload_n 0, 1) := by decide +kernel
theorem dX1_draw_162 : decode cX1_draw 162 = .ok (.getfield 51, 3) := by decide +kernel
theorem dX1_draw_165 : decode cX1_draw 165 = .ok (.iload_n 3, 1) := by decide +kernel
theorem dX1_draw_166 : decode cX1_draw 166 = .ok (.iconst 1, 1) := by decide +kernel
theorem dX1_draw_167 : decode cX1_draw 167 = .ok (.iadd, 1) := by decide +kernel
theorem dX1_draw_168 : decode cX1_draw 168 = .ok (.iload 7, 2) := by decide +kernel
theorem dX1_draw_170 : decode cX1_draw 170 = .ok (.iload 8, 2) := by decide +kernel
theorem dX1_draw_172 : decode cX1_draw 172 = .ok (.isub, 1) := by decide +kernel
theorem dX1_draw_173 : decode cX1_draw 173 = .ok (.invokevirtual 92, 3) := by decide +kernel
theorem dX1_draw_176 : decode cX1_draw 176 = .ok (.iinc 3 2, 3) := by decide +kernel
theorem dX1_draw_179 : decode cX1_draw 179 = .ok (.goto 14, 3) := by decide +kernel
theorem dX1_draw_182 : decode cX1_draw 182 = .ok (.aload_n 0, 1) := by decide +kernel
theorem dX1_draw_183 : decode cX1_draw 183 = .ok (.getfield 23, 3) := by decide +kernel
theorem dX1_draw_186 : decode cX1_draw 186 = .ok (.iload 5, 2) := by decide +kernel
theorem dX1_draw_188 : decode cX1_draw 188 = .ok (.iload 6, 2) := by decide +kernel
theorem dX1_draw_190 : decode cX1_draw 190 = .ok (.invokevirtual 92, 3) := by decide +kernel
theorem dX1_draw_193 : decode cX1_draw 193 = .ok (.iinc 4 1, 3) := by decide +kernel
theorem dX1_draw_196 : decode cX1_draw 196 = .ok (.goto (-173), 3) := by decide +kernel
theorem dX1_draw_199 : decode cX1_draw 199 = .ok (.return_, 1) := by decide +kernel
theorem dX1_partLake_0 : decode cX1_partLake 0 = .ok (.aload_n 0, 1) := by decide +kernel
theorem dX1_partLake_1 : decode cX1_partLake 1 = .ok (.getfield 39, 3) := by decide +kernel
theorem dX1_partLake_4 : decode cX1_partLake 4 = .ok (.iload_n 1, 1) := by decide +kernel
theorem dX1_partLake_5 : decode cX1_partLake 5 = .ok (.invokevirtual 75, 3) := by decide +kernel
theorem dX1_partLake_8 : decode cX1_partLake 8 = .ok (.istore_n 2, 1) := by decide +kernel
theorem dX1_partLake_9 : decode cX1_partLake 9 = .ok (.aload_n 0, 1) := by decide +kernel
theorem dX1_partLake_10 : decode cX1_partLake 10 = .ok (.getfield 42, 3) := by decide +kernel
theorem dX1_partLake_13 : decode cX1_partLake 13 = .ok (.iload_n 1, 1) := by decide +kernel
theorem dX1_partLake_14 : decode cX1_partLake 14 = .ok (.invokevirtual 75, 3) := by decide +kernel
theorem dX1_partLake_17 : decode cX1_partLake 17 = .ok (.istore_n 3, 1) := by decide +kernel
theorem dX1_partLake_18 : decode cX1_partLake 18 = .ok (.aload_n 0, 1) := by decide +kernel
theorem dX1_partLake_19 : decode cX1_partLake 19 = .ok (.getfield 23, 3) := by decide +kernel
theorem dX1_partLake_22 : decode cX1_partLake 22 = .ok (.iload_n 2, 1) := by decide +kernel
theorem dX1_partLake_23 : decode cX1_partLake 23 = .ok (.aload_n 0, 1) := by decide +kernel
theorem dX1_partLake_24 : decode cX1_partLake 24 = .ok (.getfield 27, 3) := by decide +kernel
theorem dX1_partLake_27 : decode cX1_partLake 27 = .ok (.iload_n 2, 1) := by decide +kernel
theorem dX1_partLake_28 : decode cX1_partLake 28 = .ok (.invokevirtual 75, 3) := by decide +kernel
theorem dX1_partLake_31 : decode cX1_partLake 31 = .ok (.invokevirtual 92, 3) := by decide +kernel
theorem dX1_partLake_34 : decode cX1_partLake 34 = .ok (.aload_n 0, 1) := by decide +kernel
theorem dX1_partLake_35 : decode cX1_partLake 35 = .ok (.getfield 23, 3) := by decide +kernel
theorem dX1_partLake_38 : decode cX1_partLake 38 = .ok (.iload_n 3, 1) := by decide +kernel
theorem dX1_partLake_39 : decode cX1_partLake 39 = .ok (.aload_n 0, 1) := by decide +kernel
theorem dX1_partLake_40 : decode cX1_partLake 40 = .ok (.getfield 27, 3) := by decide +kernel
theorem dX1_partLake_43 : decode cX1_partLake 43 = .ok (.iload_n 3, 1) := by decide +kernel
theorem dX1_partLake_44 : decode cX1_partLake 44 = .ok (.invokevirtual 75, 3) := by decide +kernel
theorem dX1_partLake_47 : decode cX1_partLake 47 = .ok (.invokevirtual 92, 3) := by decide +kernel
theorem dX1_partLake_50 : decode cX1_partLake 50 = .ok (.aload_n 0, 1) := by decide +kernel
theorem dX1_partLake_51 : decode cX1_partLake 51 = .ok (.iload_n 2, 1) := by decide +kernel
theorem dX1_partLake_52 : decode cX1_partLake 52 = .ok (.invokevirtual 146, 3) := by decide +kernel
theorem dX1_partLake_55 : decode cX1_partLake 55 = .ok (.aload_n 0, 1) := by decide +kernel
theorem dX1_partLake_56 : decode cX1_partLake 56 = .ok (.iload_n 3, 1) := by decide +kernel
theorem dX1_partLake_57 : decode cX1_partLake 57 = .ok (.invokevirtual 146, 3) := by decide +kernel
theorem dX1_partLake_60 : decode cX1_partLake 60 = .ok (.aload_n 0, 1) := by decide +kernel
theorem dX1_partLake_61 : decode cX1_partLake 61 = .ok (.getfield 14, 3) := by decide +kernel
theorem dX1_partLake_64 : decode cX1_partLake 64 = .ok (.iload_n 1, 1) := by decide +kernel
theorem dX1_partLake_65 : decode cX1_partLake 65 = .ok (.lconst 0, 1) := by decide +kernel
theorem dX1_partLake_66 : decode cX1_partLake 66 = .ok (.invokevirtual 85, 3) := by decide +kernel
theorem dX1_partLake_69 : decode cX1_partLake 69 = .ok (.return_, 1) := by decide +kernel
