theorem dX0_init_0 : decode cX0_init 0 = .ok (.aload_n 0, 1) := by decide +kernel
theorem dX0_init_1 : decode cX0_init 1 = .ok (.invokespecial 3, 3) := by decide +kernel
theorem dX0_init_4 : decode cX0_init 4 = .ok (.aload_n 0, 1) := by decide +kernel
theorem dX0_init_5 : decode cX0_init 5 = .ok (.new 9, 3) := by decide +kernel
theorem dX0_init_8 : decode cX0_init 8 = .ok (.dup, 1) := by decide +kernel
theorem dX0_init_9 : decode cX0_init 9 = .ok (.bipush 36, 2) := by decide +kernel
theorem dX0_init_11 : decode cX0_init 11 = .ok (.invokespecial 11, 3) := by decide +kernel
theorem dX0_init_14 : decode cX0_init 14 = .ok (.putfield 14, 3) := by decide +kernel
theorem dX0_init_17 : decode cX0_init 17 = .ok (.aload_n 0, 1) := by decide +kernel
theorem dX0_init_18 : decode cX0_init 18 = .ok (.new 9, 3) := by decide +kernel
theorem dX0_init_21 : decode cX0_init 21 = .ok (.dup, 1) := by decide +kernel
theorem dX0_init_22 : decode cX0_init 22 = .ok (.sipush 144, 3) := by decide +kernel
theorem dX0_init_25 : decode cX0_init 25 = .ok (.invokespecial 11, 3) := by decide +kernel
theorem dX0_init_28 : decode cX0_init 28 = .ok (.putfield 20, 3) := by decide +kernel
theorem dX0_init_31 : decode cX0_init 31 = .ok (.aload_n 0, 1) := by decide +kernel
theorem dX0_init_32 : decode cX0_init 32 = .ok (.new 9, 3) := by decide +kernel
theorem dX0_init_35 : decode cX0_init 35 = .ok (.dup, 1) := by decide +kernel
theorem dX0_init_36 : decode cX0_init 36 = .ok (.sipush 144, 3) := by decide +kernel
theorem dX0_init_39 : decode cX0_init 39 = .ok (.invokespecial 11, 3) := by decide +kernel
theorem dX0_init_42 : decode cX0_init 42 = .ok (.putfield 23, 3) := by decide +kernel
theorem dX0_init_45 : decode cX0_init 45 = .ok (.aload_n 0, 1) := by decide +kernel
theorem dX0_init_46 : decode cX0_init 46 = .ok (.new 9, 3) := by decide +kernel
theorem dX0_init_49 : decode cX0_init 49 = .ok (.dup, 1) := by decide +kernel
theorem dX0_init_50 : decode cX0_init 50 = .ok (.sipush 144, 3) := by decide +kernel
theorem dX0_init_53 : decode cX0_init 53 = .ok (.invokespecial 11, 3) := by decide +kernel
theorem dX0_init_56 : decode cX0_init 56 = .ok (.putfield 26, 3) := by decide +kernel
theorem dX0_init_59 : decode cX0_init 59 = .ok (.aload_n 0, 1) := by decide +kernel
theorem dX0_init_60 : decode cX0_init 60 = .ok (.new 9, 3) := by decide +kernel
theorem dX0_init_63 : decode cX0_init 63 = .ok (.dup, 1) := by decide +kernel
theorem dX0_init_64 : decode cX0_init 64 = .ok (.bipush 36, 2) := by decide +kernel
theorem dX0_init_66 : decode cX0_init 66 = .ok (.invokespecial 11, 3) := by decide +kernel
theorem dX0_init_69 : decode cX0_init 69 = .ok (.putfield 29, 3) := by decide +kernel
theorem dX0_init_72 : decode cX0_init 72 = .ok (.return_, 1) := by decide +kernel
theorem dX0_copyFrom_0 : decode cX0_copyFrom 0 = .ok (.aload_n 0, 1) := by decide +kernel
theorem dX0_copyFrom_1 : decode cX0_copyFrom 1 = .ok (.aload_n 1, 1) := by decide +kernel
theorem dX0_copyFrom_2 : decode cX0_copyFrom 2 = .ok (.getfield 32, 3) := by decide +kernel
theorem dX0_copyFrom_5 : decode cX0_copyFrom 5 = .ok (.putfield 32, 3) := by decide +kernel
theorem dX0_copyFrom_8 : decode cX0_copyFrom 8 = .ok (.aload_n 0, 1) := by decide +kernel
theorem dX0_copyFrom_9 : decode cX0_copyFrom 9 = .ok (.aload_n 1, 1) := by decide +kernel
theorem dX0_copyFrom_10 : decode cX0_copyFrom 10 = .ok (.getfield 36, 3) := by decide +kernel
theorem dX0_copyFrom_13 : decode cX0_copyFrom 13 = .ok (.putfield 36, 3) := by decide +kernel
theorem dX0_copyFrom_16 : decode cX0_copyFrom 16 = .ok (.aload_n 0, 1) := by decide +kernel
theorem dX0_copyFrom_17 : decode cX0_copyFrom 17 = .ok (.aload_n 1, 1) := by decide +kernel
theorem dX0_copyFrom_18 : decode cX0_copyFrom 18 = .ok (.getfield 39, 3) := by decide +kernel
theorem dX0_copyFrom_21 : decode cX0_copyFrom 21 = .ok (.putfield 39, 3) := by decide +kernel
theorem dX0_copyFrom_24 : decode cX0_copyFrom 24 = .ok (.aload_n 0, 1) := by decide +kernel
theorem dX0_copyFrom_25 : decode cX0_copyFrom 25 = .ok (.aload_n 1, 1) := by decide +kernel
theorem dX0_copyFrom_26 : decode cX0_copyFrom 26 = .ok (.getfield 42, 3) := by decide +kernel
theorem dX0_copyFrom_29 : decode cX0_copyFrom 29 = .ok (.putfield 42, 3) := by decide +kernel
theorem dX0_copyFrom_32 : decode cX0_copyFrom 32 = .ok (.aload_n 0, 1) := by decide +kernel
theorem dX0_copyFrom_33 : decode cX0_copyFrom 33 = .ok (.getfield 14, 3) := by decide +kernel
theorem dX0_copyFrom_36 : decode cX0_copyFrom 36 = .ok (.aload_n 1, 1) := by decide +kernel
theorem dX0_copyFrom_37 : decode cX0_copyFrom 37 = .ok (.getfield 14, 3) := by decide +kernel
theorem dX0_copyFrom_40 : decode cX0_copyFrom 40 = .ok (.invokevirtual 46, 3) := by decide +kernel
theorem dX0_copyFrom_43 : decode cX0_copyFrom 43 = .ok (.aload_n 0, 1) := by decide +kernel
theorem dX0_copyFrom_44 : decode cX0_copyFrom 44 = .ok (.getfield 20, 3) := by decide +kernel
theorem dX0_copyFrom_47 : decode cX0_copyFrom 47 = .ok (.aload_n 1, 1) := by decide +kernel
theorem dX0_copyFrom_48 : decode cX0_copyFrom 48 = .ok (.getfield 20, 3) := by decide +kernel
theorem dX0_copyFrom_51 : decode cX0_copyFrom 51 = .ok (.invokevirtual 46, 3) := by decide +kernel
theorem dX0_copyFrom_54 : decode cX0_copyFrom 54 = .ok (.aload_n 0, 1) := by decide +kernel
theorem dX0_copyFrom_55 : decode cX0_copyFrom 55 = .ok (.getfield 23, 3) := by decide +kernel
theorem dX0_copyFrom_58 : decode cX0_copyFrom 58 = .ok (.aload_n 1, 1) := by decide +kernel
theorem dX0_copyFrom_59 : decode cX0_copyFrom 59 = .ok (.getfield 23, 3) := by decide +kernel
theorem dX0_copyFrom_62 : decode cX0_copyFrom 62 = .ok (.invokevirtual 46, 3) := by decide +kernel
theorem dX0_copyFrom_65 : decode cX0_copyFrom 65 = .ok (.aload_n 0, 1) := by decide +kernel
theorem dX0_copyFrom_66 : decode cX0_copyFrom 66 = .ok (.getfield 26, 3) := by decide +kernel
theorem dX0_copyFrom_69 : decode cX0_copyFrom 69 = .ok (.aload_n 1, 1) := by decide +kernel
theorem dX0_copyFrom_70 : decode cX0_copyFrom 70 = .ok (.getfield 26, 3) := by decide +kernel
theorem dX0_copyFrom_73 : decode cX0_copyFrom 73 = .ok (.invokevirtual 46, 3) := by decide +kernel
theorem dX0_copyFrom_76 : decode cX0_copyFrom 76 = .ok (.aload_n 0, 1) := by decide +kernel
theorem dX0_copyFrom_77 : decode cX0_copyFrom 77 = .ok (.getfield 29, 3) := by decide +kernel
theorem dX0_copyFrom_80 : decode cX0_copyFrom 80 = .ok (.aload_n 1, 1) := by decide +kernel
theorem dX0_copyFrom_81 : decode cX0_copyFrom 81 = .ok (.getfield 29, 3) := by decide +kernel
theorem dX0_copyFrom_84 : decode cX0_copyFrom 84 = .ok (.invokevirtual 46, 3) := by decide +kernel
theorem dX0_copyFrom_87 : decode cX0_copyFrom 87 = .ok (.return_, 1) := by decide +kernel
theorem dX0_lay_0 : decode cX0_lay 0 = .ok (.aload_n 0, 1) := by decide +kernel
theorem dX0_lay_1 : decode cX0_lay 1 = .ok (.iload_n 1, 1) := by decide +kernel
theorem dX0_lay_2 : decode cX0_lay 2 = .ok (.putfield 32, 3) := by decide +kernel
theorem dX0_lay_5 : decode cX0_lay 5 = .ok (.aload_n 0, 1) := by decide +kernel
theorem dX0_lay_6 : decode cX0_lay 6 = .ok (.iload_n 2, 1) := by decide +kernel
theorem dX0_lay_7 : decode cX0_lay 7 = .ok (.putfield 36, 3) := by decide +kernel
theorem dX0_lay_10 : decode cX0_lay 10 = .ok (.aload_n 0, 1) := by decide +kernel
theorem dX0_lay_11 : decode cX0_lay 11 = .ok (.iload_n 1, 1) := by decide +kernel
theorem dX0_lay_12 : decode cX0_lay 12 = .ok (.iload_n 2, 1) := by decide +kernel
theorem dX0_lay_13 : decode cX0_lay 13 = .ok (.imul, 1) := by decide +kernel
theorem dX0_lay_14 : decode cX0_lay 14 = .ok (.putfield 39, 3) := by decide +kernel
theorem dX0_lay_17 : decode cX0_lay 17 = .ok (.aload_n 0, 1) := by decide +kernel
theorem dX0_lay_18 : decode cX0_lay 18 = .ok (.lconst 0, 1) := by decide +kernel
theorem dX0_lay_19 : decode cX0_lay 19 = .ok (.putfield 42, 3) := by decide +kernel
theorem dX0_lay_22 : decode cX0_lay 22 = .ok (.aload_n 0, 1) := by decide +kernel
theorem dX0_lay_23 : decode cX0_lay 23 = .ok (.getfield 14, 3) := by decide +kernel
theorem dX0_lay_26 : decode cX0_lay 26 = .ok (.iconst 0, 1) := by decide +kernel
theorem dX0_lay_27 : decode cX0_lay 27 = .ok (.invokevirtual 50, 3) := by decide +kernel
theorem dX0_lay_30 : decode cX0_lay 30 = .ok (.aload_n 0, 1) := by decide +kernel
theorem dX0_lay_31 : decode cX0_lay 31 = .ok (.getfield 20, 3) := by decide +kernel
theorem dX0_lay_34 : decode cX0_lay 34 = .ok (.iconst (-1), 1) := by decide +kernel
theorem dX0_lay_35 : decode cX0_lay 35 = .ok (.invokevirtual 50, 3) := by decide +kernel
theorem dX0_lay_38 : decode cX0_lay 38 = .ok (.aload_n 0, 1) := by decide +kernel
theorem dX0_lay_39 : decode cX0_lay 39 = .ok (.getfield 23, 3) := by decide +kernel
theorem dX0_lay_42 : decode cX0_lay 42 = .ok (.iconst (-1), 1) := by decide +kernel
theorem dX0_lay_43 : decode cX0_lay 43 = .ok (.invokevirtual 50, 3) := by decide +kernel
theorem dX0_lay_46 : decode cX0_lay 46 = .ok (.iconst 0, 1) := by decide +kernel
theorem dX0_lay_47 : decode cX0_lay 47 = .ok (.istore_n 3, 1) := by decide +kernel
theorem dX0_lay_48 : decode cX0_lay 48 = .ok (.iload_n 3, 1) := by decide +kernel
theorem dX0_lay_49 : decode cX0_lay 49 = .ok (.aload_n 0, 1) := by decide +kernel
theorem dX0_lay_50 : decode cX0_lay 50 = .ok (.getfield 36, 3) := by decide +kernel
theorem dX0_lay_53 : decode cX0_lay 53 = .ok (.if_icmp .ge 34, 3) := by decide +kernel
theorem dX0_lay_56 : decode cX0_lay 56 = .ok (.iconst 0, 1) := by decide +kernel
theorem dX0_lay_57 : decode cX0_lay 57 = .ok (.istore 4, 2) := by decide +kernel
theorem dX0_lay_59 : decode cX0_lay 59 = .ok (.iload 4, 2) := by decide +kernel
theorem dX0_lay_61 : decode cX0_lay 61 = .ok (.aload_n 0, 1) := by decide +kernel
theorem dX0_lay_62 : decode cX0_lay 62 = .ok (.getfield 32, 3) := by decide +kernel
theorem dX0_lay_65 : decode cX0_lay 65 = .ok (.if_icmp .ge 16, 3) := by decide +kernel
theorem dX0_lay_68 : decode cX0_lay 68 = .ok (.aload_n 0, 1) := by decide +kernel
theorem dX0_lay_69 : decode cX0_lay 69 = .ok (.iload_n 3, 1) := by decide +kernel
theorem dX0_lay_70 : decode cX0_lay 70 = .ok (.iload 4, 2) := by decide +kernel
theorem dX0_lay_72 : decode cX0_lay 72 = .ok (.invokevirtual 53, 3) := by decide +kernel
theorem dX0_lay_75 : decode cX0_lay 75 = .ok (.iinc 4 1, 3) := by decide +kernel
theorem dX0_lay_78 : decode cX0_lay 78 = .ok (.goto (-19), 3) := by decide +kernel
theorem dX0_lay_81 : decode cX0_lay 81 = .ok (.iinc 3 1, 3) := by decide +kernel
theorem dX0_lay_84 : decode cX0_lay 84 = .ok (.goto (-36), 3) := by decide +kernel
theorem dX0_lay_87 : decode cX0_lay 87 = .ok (.return_, 1) := by decide +kernel
theorem dX0_laySides_0 : decode cX0_laySides 0 = .ok (.aload_n 0, 1) := by decide +kernel
theorem dX0_laySides_1 : decode cX0_laySides 1 = .ok (.getfield 32, 3) := by decide +kernel
theorem dX0_laySides_4 : decode cX0_laySides 4 = .ok (.iload_n 1, 1) := by decide +kernel
theorem dX0_laySides_5 : decode cX0_laySides 5 = .ok (.imul, 1) := by decide +kernel
theorem dX0_laySides_6 : decode cX0_laySides 6 = .ok (.iload_n 2, 1) := by decide +kernel
theorem dX0_laySides_7 : decode cX0_laySides 7 = .ok (.iadd, 1) := by decide +kernel
theorem dX0_laySides_8 : decode cX0_laySides 8 = .ok (.istore_n 3, 1) := by decide +kernel
theorem dX0_laySides_9 : decode cX0_laySides 9 = .ok (.iconst 4, 1) := by decide +kernel
theorem dX0_laySides_10 : decode cX0_laySides 10 = .ok (.iload_n 3, 1) := by decide +kernel
theorem dX0_laySides_11 : decode cX0_laySides 11 = .ok (.imul, 1) := by decide +kernel
theorem dX0_laySides_12 : decode cX0_laySides 12 = .ok (.istore 4, 2) := by decide +kernel
theorem dX0_laySides_14 : decode cX0_laySides 14 = .ok (.aload_n 0, 1) := by decide +kernel
theorem dX0_laySides_15 : decode cX0_laySides 15 = .ok (.getfield 20, 3) := by decide +kernel
theorem dX0_laySides_18 : decode cX0_laySides 18 = .ok (.iload 4, 2) := by decide +kernel
theorem dX0_laySides_20 : decode cX0_laySides 20 = .ok (.iload_n 1, 1) := by decide +kernel
theorem dX0_laySides_21 : decode cX0_laySides 21 = .ok (.ifCond .le 12, 3) := by decide +kernel
theorem dX0_laySides_24 : decode cX0_laySides 24 = .ok (.iload_n 3, 1) := by decide +kernel
theorem dX0_laySides_25 : decode cX0_laySides 25 = .ok (.aload_n 0, 1) := by decide +kernel
theorem dX0_laySides_26 : decode cX0_laySides 26 = .ok (.getfield 32, 3) := by decide +kernel
theorem dX0_laySides_29 : decode cX0_laySides 29 = .ok (.isub, 1) := by decide +kernel
theorem dX0_laySides_30 : decode cX0_laySides 30 = .ok (.goto 4, 3) := by decide +kernel
theorem dX0_laySides_33 : decode cX0_laySides 33 = .ok (.iconst (-1), 1) := by decide +kernel
theorem dX0_laySides_34 : decode cX0_laySides 34 = .ok (.invokevirtual 57, 3) := by decide +kernel
theorem dX0_laySides_37 : decode cX0_laySides 37 = .ok (.aload_n 0, 1) := by decide +kernel
theorem dX0_laySides_38 : decode cX0_laySides 38 = .ok (.getfield 20, 3) := by decide +kernel
theorem dX0_laySides_41 : decode cX0_laySides 41 = .ok (.iload 4, 2) := by decide +kernel
theorem dX0_laySides_43 : decode cX0_laySides 43 = .ok (.iconst 1, 1) := by decide +kernel
theorem dX0_laySides_44 : decode cX0_laySides 44 = .ok (.iadd, 1) := by decide +kernel
theorem dX0_laySides_45 : decode cX0_laySides 45 = .ok (.iload_n 2, 1) := by decide +kernel
theorem dX0_laySides_46 : decode cX0_laySides 46 = .ok (.ifCond .le 9, 3) := by decide +kernel
theorem dX0_laySides_49 : decode cX0_laySides 49 = .ok (.iload_n 3, 1) := by decide +kernel
theorem dX0_laySides_50 : decode cX0_laySides 50 = .ok (.iconst 1, 1) := by decide +kernel
theorem dX0_laySides_51 : decode cX0_laySides 51 = .ok (.isub, 1) := by decide +kernel
theorem dX0_laySides_52 : decode cX0_laySides 52 = .ok (.goto 4, 3) := by decide +kernel
theorem dX0_laySides_55 : decode cX0_laySides 55 = .ok (.iconst (-1), 1) := by decide +kernel
theorem dX0_laySides_56 : decode cX0_laySides 56 = .ok (.invokevirtual 57, 3) := by decide +kernel
theorem dX0_laySides_59 : decode cX0_laySides 59 = .ok (.aload_n 0, 1) := by decide +kernel
theorem dX0_laySides_60 : decode cX0_laySides 60 = .ok (.getfield 20, 3) := by decide +kernel
theorem dX0_laySides_63 : decode cX0_laySides 63 = .ok (.iload 4, 2) := by decide +kernel
theorem dX0_laySides_65 : decode cX0_laySides 65 = .ok (.iconst 2, 1) := by decide +kernel
theorem dX0_laySides_66 : decode cX0_laySides 66 = .ok (.iadd, 1) := by decide +kernel
theorem dX0_laySides_67 : decode cX0_laySides 67 = .ok (.iload_n 2, 1) := by decide +kernel
theorem dX0_laySides_68 : decode cX0_laySides 68 = .ok (.aload_n 0, 1) := by decide +kernel
theorem dX0_laySides_69 : decode cX0_laySides 69 = .ok (.getfield 32, 3) := by decide +kernel
theorem dX0_laySides_72 : decode cX0_laySides 72 = .ok (.iconst 1, 1) := by decide +kernel
theorem dX0_laySides_73 : decode cX0_laySides 73 = .ok (.isub, 1) := by decide +kernel
theorem dX0_laySides_74 : decode cX0_laySides 74 = .ok (.if_icmp .ge 9, 3) := by decide +kernel
theorem dX0_laySides_77 : decode cX0_laySides 77 = .ok (.iload_n 3, 1) := by decide +kernel
theorem dX0_laySides_78 : decode cX0_laySides 78 = .ok (.iconst 1, 1) := by decide +kernel
theorem dX0_laySides_79 : decode cX0_laySides 79 = .ok (.iadd, 1) := by decide +kernel
theorem dX0_laySides_80 : decode cX0_laySides 80 = .ok (.goto 4, 3) := by decide +kernel
theorem dX0_laySides_83 : decode cX0_laySides 83 = .ok (.iconst (-1), 1) := by decide +kernel
theorem dX0_laySides_84 : decode cX0_laySides 84 = .ok (.invokevirtual 57, 3) := by decide +kernel
theorem dX0_laySides_87 : decode cX0_laySides 87 = .ok (.aload_n 0, 1) := by decide +kernel
theorem dX0_laySides_88 : decode cX0_laySides 88 = .ok (.getfield 20, 3) := by decide +kernel
theorem dX0_laySides_91 : decode cX0_laySides 91 = .ok (.iload 4, 2) := by decide +kernel
theorem dX0_laySides_93 : decode cX0_laySides 93 = .ok (.iconst 3, 1) := by decide +kernel
theorem dX0_laySides_94 : decode cX0_laySides 94 = .ok (.iadd, 1) := by decide +kernel
theorem dX0_laySides_95 : decode cX0_laySides 95 = .ok (.iload_n 1, 1) := by decide +kernel
theorem dX0_laySides_96 : decode cX0_laySides 96 = .ok (.aload_n 0, 1) := by decide +kernel
theorem dX0_laySides_97 : decode cX0_laySides 97 = .ok (.getfield 36, 3) := by decide +kernel
theorem dX0_laySides_100 : decode cX0_laySides 100 = .ok (.iconst 1, 1) := by decide +kernel
theorem dX0_laySides_101 : decode cX0_laySides 101 = .ok (.isub, 1) := by decide +kernel
theorem dX0_laySides_102 : decode cX0_laySides 102 = .ok (.if_icmp .ge 12, 3) := by decide +kernel
theorem dX0_laySides_105 : decode cX0_laySides 105 = .ok (.iload_n 3, 1) := by decide +kernel
theorem dX0_laySides_106 : decode cX0_laySides 106 = .ok (.aload_n 0, 1) := by decide +kernel
theorem dX0_laySides_107 : decode cX0_laySides 107 = .ok (.getfield 32, 3) := by decide +kernel
theorem dX0_laySides_110 : decode cX0_laySides 110 = .ok (.iadd, 1) := by decide +kernel
theorem dX0_laySides_111 : decode cX0_laySides 111 = .ok (.goto 4, 3) := by decide +kernel
theorem dX0_laySides_114 : decode cX0_laySides 114 = .ok (.iconst (-1), 1) := by decide +kernel
theorem dX0_laySides_115 : decode cX0_laySides 115 = .ok (.invokevirtual 57, 3) := by decide +kernel
theorem dX0_laySides_118 : decode cX0_laySides 118 = .ok (.return_, 1) := by decide +kernel
theorem dX0_exists_0 : decode cX0_exists 0 = .ok (.iload_n 1, 1) := by decide +kernel
theorem dX0_exists_1 : decode cX0_exists 1 = .ok (.ifCond .lt 15, 3) := by decide +kernel
theorem dX0_exists_4 : decode cX0_exists 4 = .ok (.iload_n 1, 1) := by decide +kernel
theorem dX0_exists_5 : decode cX0_exists 5 = .ok (.aload_n 0, 1) := by decide +kernel
theorem dX0_exists_6 : decode cX0_exists 6 = .ok (.getfield 39, 3) := by decide +kernel
theorem dX0_exists_9 : decode cX0_exists 9 = .ok (.if_icmp .ge 7, 3) := by decide +kernel
theorem dX0_exists_12 : decode cX0_exists 12 = .ok (.iconst 1, 1) := by decide +kernel
theorem dX0_exists_13 : decode cX0_exists 13 = .ok (.goto 4, 3) := by decide +kernel
theorem dX0_exists_16 : decode cX0_exists 16 = .ok (.iconst 0, 1) := by decide +kernel
theorem dX0_exists_17 : decode cX0_exists 17 = .ok (.ireturn, 1) := by decide +kernel
theorem dX0_sideTo_0 : decode cX0_sideTo 0 = .ok (.aload_n 0, 1) := by decide +kernel
theorem dX0_sideTo_1 : decode cX0_sideTo 1 = .ok (.iload_n 1, 1) := by decide +kernel
theorem dX0_sideTo_2 : decode cX0_sideTo 2 = .ok (.invokevirtual 60, 3) := by decide +kernel
theorem dX0_sideTo_5 : decode cX0_sideTo 5 = .ok (.ifCond .eq 11, 3) := by decide +kernel
theorem dX0_sideTo_8 : decode cX0_sideTo 8 = .ok (.aload_n 0, 1) := by decide +kernel
theorem dX0_sideTo_9 : decode cX0_sideTo 9 = .ok (.iload_n 2, 1) := by decide +kernel
theorem dX0_sideTo_10 : decode cX0_sideTo 10 = .ok (.invokevirtual 60, 3) := by decide +kernel
theorem dX0_sideTo_13 : decode cX0_sideTo 13 = .ok (.ifCond .ne 5, 3) := by decide +kernel
theorem dX0_sideTo_16 : decode cX0_sideTo 16 = .ok (.iconst (-1), 1) := by decide +kernel
theorem dX0_sideTo_17 : decode cX0_sideTo 17 = .ok (.ireturn, 1) := by decide +kernel
theorem dX0_sideTo_18 : decode cX0_sideTo 18 = .ok (.iconst 4, 1) := by decide +kernel
theorem dX0_sideTo_19 : decode cX0_sideTo 19 = .ok (.iload_n 1, 1) := by decide +kernel
theorem dX0_sideTo_20 : decode cX0_sideTo 20 = .ok (.imul, 1) := by decide +kernel
theorem dX0_sideTo_21 : decode cX0_sideTo 21 = .ok (.istore_n 3, 1) := by decide +kernel
theorem dX0_sideTo_22 : decode cX0_sideTo 22 = .ok (.iload_n 3, 1) := by decide +kernel
theorem dX0_sideTo_23 : decode cX0_sideTo 23 = .ok (.iconst 4, 1) := by decide +kernel
theorem dX0_sideTo_24 : decode cX0_sideTo 24 = .ok (.iload_n 1, 1) := by decide +kernel
theorem dX0_sideTo_25 : decode cX0_sideTo 25 = .ok (.imul, 1) := by decide +kernel
theorem dX0_sideTo_26 : decode cX0_sideTo 26 = .ok (.iconst 4, 1) := by decide +kernel
theorem dX0_sideTo_27 : decode cX0_sideTo 27 = .ok (.iadd, 1) := by decide +kernel
theorem dX0_sideTo_28 : decode cX0_sideTo 28 = .ok (.if_icmp .ge 23, 3) := by decide +kernel
theorem dX0_sideTo_31 : decode cX0_sideTo 31 = .ok (.aload_n 0, 1) := by decide +kernel
theorem dX0_sideTo_32 : decode cX0_sideTo 32 = .ok (.getfield 20, 3) := by decide +kernel
theorem dX0_sideTo_35 : decode cX0_sideTo 35 = .ok (.iload_n 3, 1) := by decide +kernel
theorem dX0_sideTo_36 : decode cX0_sideTo 36 = .ok (.invokevirtual 64, 3) := by decide +kernel
theorem dX0_sideTo_39 : decode cX0_sideTo 39 = .ok (.iload_n 2, 1) := by decide +kernel
theorem dX0_sideTo_40 : decode cX0_sideTo 40 = .ok (.if_icmp .ne 5, 3) := by decide +kernel
theorem dX0_sideTo_43 : decode cX0_sideTo 43 = .ok (.iload_n 3, 1) := by decide +kernel
theorem dX0_sideTo_44 : decode cX0_sideTo 44 = .ok (.ireturn, 1) := by decide +kernel
theorem dX0_sideTo_45 : decode cX0_sideTo 45 = .ok (.iinc 3 1, 3) := by decide +kernel
theorem dX0_sideTo_48 : decode cX0_sideTo 48 = .ok (.goto (-26), 3) := by decide +kernel
theorem dX0_sideTo_51 : decode cX0_sideTo 51 = .ok (.iconst (-1), 1) := by decide +kernel
theorem dX0_sideTo_52 : decode cX0_sideTo 52 = .ok (.ireturn, 1) := by decide +kernel
theorem dX0_putDrain_0 : decode cX0_putDrain 0 = .ok (.aload_n 0, 1) := by decide +kernel
theorem dX0_putDrain_1 : decode cX0_putDrain 1 = .ok (.iload_n 2, 1) := by decide +kernel
theorem dX0_putDrain_2 : decode cX0_putDrain 2 = .ok (.ifCond .eq 15, 3) := by decide +kernel
theorem dX0_putDrain_5 : decode cX0_putDrain 5 = .ok (.aload_n 0, 1) := by decide +kernel
theorem dX0_putDrain_6 : decode cX0_putDrain 6 = .ok (.getfield 42, 3) := by decide +kernel
theorem dX0_putDrain_9 : decode cX0_putDrain 9 = .ok (.iload_n 1, 1) := by decide +kernel
theorem dX0_putDrain_10 : decode cX0_putDrain 10 = .ok (.invokestatic 68, 3) := by decide +kernel
theorem dX0_putDrain_13 : decode cX0_putDrain 13 = .ok (.lor, 1) := by decide +kernel
theorem dX0_putDrain_14 : decode cX0_putDrain 14 = .ok (.goto 16, 3) := by decide +kernel
theorem dX0_putDrain_17 : decode cX0_putDrain 17 = .ok (.aload_n 0, 1) := by decide +kernel
theorem dX0_putDrain_18 : decode cX0_putDrain 18 = .ok (.getfield 42, 3) := by decide +kernel
theorem dX0_putDrain_21 : decode cX0_putDrain 21 = .ok (.iload_n 1, 1) := by decide +kernel
theorem dX0_putDrain_22 : decode cX0_putDrain 22 = .ok (.invokestatic 68, 3) := by decide +kernel
theorem dX0_putDrain_25 : decode cX0_putDrain 25 = .ok (.ldc2_w 72, 3) := by decide +kernel
theorem dX0_putDrain_28 : decode cX0_putDrain 28 = .ok (.lxor, 1) := by decide +kernel
theorem dX0_putDrain_29 : decode cX0_putDrain 29 = .ok (.land, 1) := by decide +kernel
theorem dX0_putDrain_30 : decode cX0_putDrain 30 = .ok (.putfield 42, 3) := by decide +kernel
theorem dX0_putDrain_33 : decode cX0_putDrain 33 = .ok (.return_, 1) := by decide +kernel
theorem dX0_putGate_0 : decode cX0_putGate 0 = .ok (.aload_n 0, 1) := by decide +kernel
theorem dX0_putGate_1 : decode cX0_putGate 1 = .ok (.getfield 23, 3) := by decide +kernel
theorem dX0_putGate_4 : decode cX0_putGate 4 = .ok (.aload_n 0, 1) := by decide +kernel
theorem dX0_putGate_5 : decode cX0_putGate 5 = .ok (.iload_n 1, 1) := by decide +kernel
theorem dX0_putGate_6 : decode cX0_putGate 6 = .ok (.iload_n 2, 1) := by decide +kernel
theorem dX0_putGate_7 : decode cX0_putGate 7 = .ok (.invokevirtual 74, 3) := by decide +kernel
theorem dX0_putGate_10 : decode cX0_putGate 10 = .ok (.iload_n 3, 1) := by decide +kernel
theorem dX0_putGate_11 : decode cX0_putGate 11 = .ok (.invokevirtual 57, 3) := by decide +kernel
theorem dX0_putGate_14 : decode cX0_putGate 14 = .ok (.aload_n 0, 1) := by decide +kernel
theorem dX0_putGate_15 : decode cX0_putGate 15 = .ok (.getfield 23, 3) := by decide +kernel
theorem dX0_putGate_18 : decode cX0_putGate 18 = .ok (.aload_n 0, 1) := by decide +kernel
theorem dX0_putGate_19 : decode cX0_putGate 19 = .ok (.iload_n 2, 1) := by decide +kernel
theorem dX0_putGate_20 : decode cX0_putGate 20 = .ok (.iload_n 1, 1) := by decide +kernel
theorem dX0_putGate_21 : decode cX0_putGate 21 = .ok (.invokevirtual 74, 3) := by decide +kernel
theorem dX0_putGate_24 : decode cX0_putGate 24 = .ok (.iload_n 3, 1) := by decide +kernel
theorem dX0_putGate_25 : decode cX0_putGate 25 = .ok (.invokevirtual 57, 3) := by decide +kernel
theorem dX0_putGate_28 : decode cX0_putGate 28 = .ok (.return_, 1) := by decide +kernel
theorem dX0_scatter_0 : decode cX0_scatter 0 = .ok (.iload_n 1, 1) := by decide +kernel
theorem dX0_scatter_1 : decode cX0_scatter 1 = .ok (.i2l, 1) := by decide +kernel
theorem dX0_scatter_2 : decode cX0_scatter 2 = .ok (.lstore_n 3, 1) := by decide +kernel
theorem dX0_scatter_3 : decode cX0_scatter 3 = .ok (.iload_n 2, 1) := by decide +kernel
theorem dX0_scatter_4 : decode cX0_scatter 4 = .ok (.iconst 1, 1) := by decide +kernel
theorem dX0_scatter_5 : decode cX0_scatter 5 = .ok (.iadd, 1) := by decide +kernel
theorem dX0_scatter_6 : decode cX0_scatter 6 = .ok (.istore 5, 2) := by decide +kernel
theorem dX0_scatter_8 : decode cX0_scatter 8 = .ok (.iconst 0, 1) := by decide +kernel
theorem dX0_scatter_9 : decode cX0_scatter 9 = .ok (.istore 6, 2) := by decide +kernel
theorem dX0_scatter_11 : decode cX0_scatter 11 = .ok (.iload 6, 2) := by decide +kernel
theorem dX0_scatter_13 : decode cX0_scatter 13 = .ok (.aload_n 0, 1) := by decide +kernel
theorem dX0_scatter_14 : decode cX0_scatter 14 = .ok (.getfield 39, 3) := by decide +kernel
theorem dX0_scatter_17 : decode cX0_scatter 17 = .ok (.if_icmp .ge 47, 3) := by decide +kernel
theorem dX0_scatter_20 : decode cX0_scatter 20 = .ok (.iload 5, 2) := by decide +kernel
theorem dX0_scatter_22 : decode cX0_scatter 22 = .ok (.ifCond .le 42, 3) := by decide +kernel
theorem dX0_scatter_25 : decode cX0_scatter 25 = .ok (.ldc2_w 78, 3) := by decide +kernel
theorem dX0_scatter_28 : decode cX0_scatter 28 = .ok (.lload_n 3, 1) := by decide +kernel
theorem dX0_scatter_29 : decode cX0_scatter 29 = .ok (.lmul, 1) := by decide +kernel
theorem dX0_scatter_30 : decode cX0_scatter 30 = .ok (.ldc2_w 80, 3) := by decide +kernel
theorem dX0_scatter_33 : decode cX0_scatter 33 = .ok (.ladd, 1) := by decide +kernel
theorem dX0_scatter_34 : decode cX0_scatter 34 = .ok (.ldc2_w 82, 3) := by decide +kernel
theorem dX0_scatter_37 : decode cX0_scatter 37 = .ok (.lrem, 1) := by decide +kernel
theorem dX0_scatter_38 : decode cX0_scatter 38 = .ok (.lstore_n 3, 1) := by decide +kernel
theorem dX0_scatter_39 : decode cX0_scatter 39 = .ok (.aload_n 0, 1) := by decide +kernel
theorem dX0_scatter_40 : decode cX0_scatter 40 = .ok (.getfield 14, 3) := by decide +kernel
theorem dX0_scatter_43 : decode cX0_scatter 43 = .ok (.iload 6, 2) := by decide +kernel
theorem dX0_scatter_45 : decode cX0_scatter 45 = .ok (.lload_n 3, 1) := by decide +kernel
theorem dX0_scatter_46 : decode cX0_scatter 46 = .ok (.ldc2_w 84, 3) := by decide +kernel
theorem dX0_scatter_49 : decode cX0_scatter 49 = .ok (.ldiv, 1) := by decide +kernel
theorem dX0_scatter_50 : decode cX0_scatter 50 = .ok (.iload 5, 2) := by decide +kernel
theorem dX0_scatter_52 : decode cX0_scatter 52 = .ok (.i2l, 1) := by decide +kernel
theorem dX0_scatter_53 : decode cX0_scatter 53 = .ok (.lrem, 1) := by decide +kernel
theorem dX0_scatter_54 : decode cX0_scatter 54 = .ok (.l2i, 1) := by decide +kernel
theorem dX0_scatter_55 : decode cX0_scatter 55 = .ok (.invokevirtual 57, 3) := by decide +kernel
theorem dX0_scatter_58 : decode cX0_scatter 58 = .ok (.iinc 6 1, 3) := by decide +kernel
theorem dX0_scatter_61 : decode cX0_scatter 61 = .ok (.goto (-50), 3) := by decide +kernel
theorem dX0_scatter_64 : decode cX0_scatter 64 = .ok (.return_, 1) := by decide +kernel
theorem dX0_measure_0 : decode cX0_measure 0 = .ok (.iconst 0, 1) := by decide +kernel
theorem dX0_measure_1 : decode cX0_measure 1 = .ok (.istore_n 1, 1) := by decide +kernel
theorem dX0_measure_2 : decode cX0_measure 2 = .ok (.iload_n 1, 1) := by decide +kernel
theorem dX0_measure_3 : decode cX0_measure 3 = .ok (.iconst 4, 1) := by decide +kernel
theorem dX0_measure_4 : decode cX0_measure 4 = .ok (.aload_n 0, 1) := by decide +kernel
theorem dX0_measure_5 : decode cX0_measure 5 = .ok (.getfield 39, 3) := by decide +kernel
theorem dX0_measure_8 : decode cX0_measure 8 = .ok (.imul, 1) := by decide +kernel
theorem dX0_measure_9 : decode cX0_measure 9 = .ok (.if_icmp .ge 70, 3) := by decide +kernel
theorem dX0_measure_12 : decode cX0_measure 12 = .ok (.aload_n 0, 1) := by decide +kernel
theorem dX0_measure_13 : decode cX0_measure 13 = .ok (.getfield 20, 3) := by decide +kernel
theorem dX0_measure_16 : decode cX0_measure 16 = .ok (.iload_n 1, 1) := by decide +kernel
theorem dX0_measure_17 : decode cX0_measure 17 = .ok (.invokevirtual 64, 3) := by decide +kernel
theorem dX0_measure_20 : decode cX0_measure 20 = .ok (.istore_n 2, 1) := by decide +kernel
theorem dX0_measure_21 : decode cX0_measure 21 = .ok (.aload_n 0, 1) := by decide +kernel
theorem dX0_measure_22 : decode cX0_measure 22 = .ok (.getfield 14, 3) := by decide +kernel
theorem dX0_measure_25 : decode cX0_measure 25 = .ok (.iload_n 1, 1) := by decide +kernel
theorem dX0_measure_26 : decode cX0_measure 26 = .ok (.iconst 4, 1) := by decide +kernel
theorem dX0_measure_27 : decode cX0_measure 27 = .ok (.idiv, 1) := by decide +kernel
theorem dX0_measure_28 : decode cX0_measure 28 = .ok (.invokevirtual 64, 3) := by decide +kernel
theorem dX0_measure_31 : decode cX0_measure 31 = .ok (.aload_n 0, 1) := by decide +kernel
theorem dX0_measure_32 : decode cX0_measure 32 = .ok (.getfield 14, 3) := by decide +kernel
theorem dX0_measure_35 : decode cX0_measure 35 = .ok (.iload_n 2, 1) := by decide +kernel
theorem dX0_measure_36 : decode cX0_measure 36 = .ok (.invokevirtual 64, 3) := by decide +kernel
theorem dX0_measure_39 : decode cX0_measure 39 = .ok (.invokestatic 86, 3) := by decide +kernel
theorem dX0_measure_42 : decode cX0_measure 42 = .ok (.istore_n 3, 1) := by decide +kernel
theorem dX0_measure_43 : decode cX0_measure 43 = .ok (.aload_n 0, 1) := by decide +kernel
theorem dX0_measure_44 : decode cX0_measure 44 = .ok (.getfield 26, 3) := by decide +kernel
theorem dX0_measure_47 : decode cX0_measure 47 = .ok (.iload_n 1, 1) := by decide +kernel
theorem dX0_measure_48 : decode cX0_measure 48 = .ok (.iload_n 2, 1) := by decide +kernel
theorem dX0_measure_49 : decode cX0_measure 49 = .ok (.iconst (-1), 1) := by decide +kernel
theorem dX0_measure_50 : decode cX0_measure 50 = .ok (.if_icmp .ne 8, 3) := by decide +kernel
theorem dX0_measure_53 : decode cX0_measure 53 = .ok (.bipush 100, 2) := by decide +kernel
theorem dX0_measure_55 : decode cX0_measure 55 = .ok (.goto 15, 3) := by decide +kernel
theorem dX0_measure_58 : decode cX0_measure 58 = .ok (.iload_n 3, 1) := by decide +kernel
theorem dX0_measure_59 : decode cX0_measure 59 = .ok (.aload_n 0, 1) := by decide +kernel
theorem dX0_measure_60 : decode cX0_measure 60 = .ok (.getfield 23, 3) := by decide +kernel
theorem dX0_measure_63 : decode cX0_measure 63 = .ok (.iload_n 1, 1) := by decide +kernel
theorem dX0_measure_64 : decode cX0_measure 64 = .ok (.invokevirtual 64, 3) := by decide +kernel
theorem dX0_measure_67 : decode cX0_measure 67 = .ok (.invokestatic 86, 3) := by decide +kernel
theorem dX0_measure_70 : decode cX0_measure 70 = .ok (.invokevirtual 57, 3) := by decide +kernel
theorem dX0_measure_73 : decode cX0_measure 73 = .ok (.iinc 1 1, 3) := by decide +kernel
theorem dX0_measure_76 : decode cX0_measure 76 = .ok (.goto (-74), 3) := by decide +kernel
theorem dX0_measure_79 : decode cX0_measure 79 = .ok (.iconst 0, 1) := by decide +kernel
theorem dX0_measure_80 : decode cX0_measure 80 = .ok (.istore_n 1, 1) := by decide +kernel
theorem dX0_measure_81 : decode cX0_measure 81 = .ok (.iload_n 1, 1) := by decide +kernel
theorem dX0_measure_82 : decode cX0_measure 82 = .ok (.aload_n 0, 1) := by decide +kernel
theorem dX0_measure_83 : decode cX0_measure 83 = .ok (.getfield 39, 3) := by decide +kernel
theorem dX0_measure_86 : decode cX0_measure 86 = .ok (.if_icmp .ge 76, 3) := by decide +kernel
theorem dX0_measure_89 : decode cX0_measure 89 = .ok (.iload_n 1, 1) := by decide +kernel
theorem dX0_measure_90 : decode cX0_measure 90 = .ok (.istore_n 2, 1) := by decide +kernel
theorem dX0_measure_91 : decode cX0_measure 91 = .ok (.iload_n 2, 1) := by decide +kernel
theorem dX0_measure_92 : decode cX0_measure 92 = .ok (.ifCond .le 55, 3) := by decide +kernel
theorem dX0_measure_95 : decode cX0_measure 95 = .ok (.aload_n 0, 1) := by decide +kernel
theorem dX0_measure_96 : decode cX0_measure 96 = .ok (.getfield 14, 3) := by decide +kernel
theorem dX0_measure_99 : decode cX0_measure 99 = .ok (.aload_n 0, 1) := by decide +kernel
theorem dX0_measure_100 : decode cX0_measure 100 = .ok (.getfield 29, 3) := by decide +kernel
theorem dX0_measure_103 : decode cX0_measure 103 = .ok (.iload_n 2, 1) := by decide +kernel
theorem dX0_measure_104 : decode cX0_measure 104 = .ok (.iconst 1, 1) := by decide +kernel
theorem dX0_measure_105 : decode cX0_measure 105 = .ok (.isub, 1) := by decide +kernel
theorem dX0_measure_106 : decode cX0_measure 106 = .ok (.invokevirtual 64, 3) := by decide +kernel
theorem dX0_measure_109 : decode cX0_measure 109 = .ok (.invokevirtual 64, 3) := by decide +kernel
theorem dX0_measure_112 : decode cX0_measure 112 = .ok (.aload_n 0, 1) := by decide +kernel
theorem dX0_measure_113 : decode cX0_measure 113 = .ok (.getfield 14, 3) := by decide +kernel
theorem dX0_measure_116 : decode cX0_measure 116 = .ok (.iload_n 1, 1) := by decide +kernel
theorem dX0_measure_117 : decode cX0_measure 117 = .ok (.invokevirtual 64, 3) := by decide +kernel
theorem dX0_measure_120 : decode cX0_measure 120 = .ok (.if_icmp .le 27, 3) := by decide +kernel
theorem dX0_measure_123 : decode cX0_measure 123 = .ok (.aload_n 0, 1) := by decide +kernel
theorem dX0_measure_124 : decode cX0_measure 124 = .ok (.getfield 29, 3) := by decide +kernel
theorem dX0_measure_127 : decode cX0_measure 127 = .ok (.iload_n 2, 1) := by decide +kernel
theorem dX0_measure_128 : decode cX0_measure 128 = .ok (.aload_n 0, 1) := by decide +kernel
theorem dX0_measure_129 : decode cX0_measure 129 = .ok (.getfield 29, 3) := by decide +kernel
theorem dX0_measure_132 : decode cX0_measure 132 = .ok (.iload_n 2, 1) := by decide +kernel
theorem dX0_measure_133 : decode cX0_measure 133 = .ok (.iconst 1, 1) := by decide +kernel
theorem dX0_measure_134 : decode cX0_measure 134 = .ok (.isub, 1) := by decide +kernel
theorem dX0_measure_135 : decode cX0_measure 135 = .ok (.invokevirtual 64, 3) := by decide +kernel
theorem dX0_measure_138 : decode cX0_measure 138 = .ok (.invokevirtual 57, 3) := by decide +kernel
theorem dX0_measure_141 : decode cX0_measure 141 = .ok (.iinc 2 (-1), 3) := by decide +kernel
theorem dX0_measure_144 : decode cX0_measure 144 = .ok (.goto (-53), 3) := by decide +kernel
theorem dX0_measure_147 : decode cX0_measure 147 = .ok (.aload_n 0, 1) := by decide +kernel
theorem dX0_measure_148 : decode cX0_measure 148 = .ok (.getfield 29, 3) := by decide +kernel
theorem dX0_measure_151 : decode cX0_measure 151 = .ok (.iload_n 2, 1) := by decide +kernel
theorem dX0_measure_152 : decode cX0_measure 152 = .ok (.iload_n 1, 1) := by decide +kernel
theorem dX0_measure_153 : decode cX0_measure 153 = .ok (.invokevirtual 57, 3) := by decide +kernel
theorem dX0_measure_156 : decode cX0_measure 156 = .ok (.iinc 1 1, 3) := by decide +kernel
theorem dX0_measure_159 : decode cX0_measure 159 = .ok (.goto (-78), 3) := by decide +kernel
theorem dX0_measure_162 : decode cX0_measure 162 = .ok (.return_, 1) := by decide +kernel
theorem dX0_heightSum_0 : decode cX0_heightSum 0 = .ok (.iconst 0, 1) := by decide +kernel
theorem dX0_heightSum_1 : decode cX0_heightSum 1 = .ok (.istore_n 3, 1) := by decide +kernel
theorem dX0_heightSum_2 : decode cX0_heightSum 2 = .ok (.iconst 0, 1) := by decide +kernel
theorem dX0_heightSum_3 : decode cX0_heightSum 3 = .ok (.istore 4, 2) := by decide +kernel
theorem dX0_heightSum_5 : decode cX0_heightSum 5 = .ok (.iload 4, 2) := by decide +kernel
theorem dX0_heightSum_7 : decode cX0_heightSum 7 = .ok (.aload_n 0, 1) := by decide +kernel
theorem dX0_heightSum_8 : decode cX0_heightSum 8 = .ok (.getfield 39, 3) := by decide +kernel
theorem dX0_heightSum_11 : decode cX0_heightSum 11 = .ok (.if_icmp .ge 34, 3) := by decide +kernel
theorem dX0_heightSum_14 : decode cX0_heightSum 14 = .ok (.iload_n 3, 1) := by decide +kernel
theorem dX0_heightSum_15 : decode cX0_heightSum 15 = .ok (.lload_n 1, 1) := by decide +kernel
theorem dX0_heightSum_16 : decode cX0_heightSum 16 = .ok (.iload 4, 2) := by decide +kernel
theorem dX0_heightSum_18 : decode cX0_heightSum 18 = .ok (.invokestatic 91, 3) := by decide +kernel
theorem dX0_heightSum_21 : decode cX0_heightSum 21 = .ok (.ifCond .eq 15, 3) := by decide +kernel
theorem dX0_heightSum_24 : decode cX0_heightSum 24 = .ok (.aload_n 0, 1) := by decide +kernel
theorem dX0_heightSum_25 : decode cX0_heightSum 25 = .ok (.getfield 14, 3) := by decide +kernel
theorem dX0_heightSum_28 : decode cX0_heightSum 28 = .ok (.iload 4, 2) := by decide +kernel
theorem dX0_heightSum_30 : decode cX0_heightSum 30 = .ok (.invokevirtual 64, 3) := by decide +kernel
theorem dX0_heightSum_33 : decode cX0_heightSum 33 = .ok (.goto 4, 3) := by decide +kernel
theorem dX0_heightSum_36 : decode cX0_heightSum 36 = .ok (.iconst 0, 1) := by decide +kernel
theorem dX0_heightSum_37 : decode cX0_heightSum 37 = .ok (.iadd, 1) := by decide +kernel
theorem dX0_heightSum_38 : decode cX0_heightSum 38 = .ok (.istore_n 3, 1) := by decide +kernel
theorem dX0_heightSum_39 : decode cX0_heightSum 39 = .ok (.iinc 4 1, 3) := by decide +kernel
theorem dX0_heightSum_42 : decode cX0_heightSum 42 = .ok (.goto (-37), 3) := by decide +kernel
theorem dX0_heightSum_45 : decode cX0_heightSum 45 = .ok (.iload_n 3, 1) := by decide +kernel
theorem dX0_heightSum_46 : decode cX0_heightSum 46 = .ok (.ireturn, 1) := by decide +kernel
