theorem dX2_init_0 : decode cX2_init 0 = .ok (.aload_n 0, 1) := by decide +kernel
theorem dX2_init_1 : decode cX2_init 1 = .ok (.invokespecial 3, 3) := by decide +kernel
theorem dX2_init_4 : decode cX2_init 4 = .ok (.aload_n 0, 1) := by decide +kernel
theorem dX2_init_5 : decode cX2_init 5 = .ok (.new 9, 3) := by decide +kernel
theorem dX2_init_8 : decode cX2_init 8 = .ok (.dup, 1) := by decide +kernel
theorem dX2_init_9 : decode cX2_init 9 = .ok (.sipush 150, 3) := by decide +kernel
theorem dX2_init_12 : decode cX2_init 12 = .ok (.invokespecial 11, 3) := by decide +kernel
theorem dX2_init_15 : decode cX2_init 15 = .ok (.putfield 14, 3) := by decide +kernel
theorem dX2_init_18 : decode cX2_init 18 = .ok (.return_, 1) := by decide +kernel
theorem dX2_add_0 : decode cX2_add 0 = .ok (.aload_n 0, 1) := by decide +kernel
theorem dX2_add_1 : decode cX2_add 1 = .ok (.getfield 14, 3) := by decide +kernel
theorem dX2_add_4 : decode cX2_add 4 = .ok (.aload_n 0, 1) := by decide +kernel
theorem dX2_add_5 : decode cX2_add 5 = .ok (.getfield 20, 3) := by decide +kernel
theorem dX2_add_8 : decode cX2_add 8 = .ok (.iload_n 1, 1) := by decide +kernel
theorem dX2_add_9 : decode cX2_add 9 = .ok (.invokevirtual 24, 3) := by decide +kernel
theorem dX2_add_12 : decode cX2_add 12 = .ok (.aload_n 0, 1) := by decide +kernel
theorem dX2_add_13 : decode cX2_add 13 = .ok (.dup, 1) := by decide +kernel
theorem dX2_add_14 : decode cX2_add 14 = .ok (.getfield 20, 3) := by decide +kernel
theorem dX2_add_17 : decode cX2_add 17 = .ok (.iconst 1, 1) := by decide +kernel
theorem dX2_add_18 : decode cX2_add 18 = .ok (.iadd, 1) := by decide +kernel
theorem dX2_add_19 : decode cX2_add 19 = .ok (.putfield 20, 3) := by decide +kernel
theorem dX2_add_22 : decode cX2_add 22 = .ok (.return_, 1) := by decide +kernel
theorem dX2_readInto_0 : decode cX2_readInto 0 = .ok (.aload_n 0, 1) := by decide +kernel
theorem dX2_readInto_1 : decode cX2_readInto 1 = .ok (.iconst 0, 1) := by decide +kernel
theorem dX2_readInto_2 : decode cX2_readInto 2 = .ok (.putfield 28, 3) := by decide +kernel
theorem dX2_readInto_5 : decode cX2_readInto 5 = .ok (.aload_n 0, 1) := by decide +kernel
theorem dX2_readInto_6 : decode cX2_readInto 6 = .ok (.iconst (-1), 1) := by decide +kernel
theorem dX2_readInto_7 : decode cX2_readInto 7 = .ok (.putfield 31, 3) := by decide +kernel
theorem dX2_readInto_10 : decode cX2_readInto 10 = .ok (.aload_n 0, 1) := by decide +kernel
theorem dX2_readInto_11 : decode cX2_readInto 11 = .ok (.bipush 6, 2) := by decide +kernel
theorem dX2_readInto_13 : decode cX2_readInto 13 = .ok (.invokevirtual 34, 3) := by decide +kernel
theorem dX2_readInto_16 : decode cX2_readInto 16 = .ok (.istore_n 2, 1) := by decide +kernel
theorem dX2_readInto_17 : decode cX2_readInto 17 = .ok (.aload_n 0, 1) := by decide +kernel
theorem dX2_readInto_18 : decode cX2_readInto 18 = .ok (.bipush 6, 2) := by decide +kernel
theorem dX2_readInto_20 : decode cX2_readInto 20 = .ok (.invokevirtual 34, 3) := by decide +kernel
theorem dX2_readInto_23 : decode cX2_readInto 23 = .ok (.istore_n 3, 1) := by decide +kernel
theorem dX2_readInto_24 : decode cX2_readInto 24 = .ok (.aload_n 0, 1) := by decide +kernel
theorem dX2_readInto_25 : decode cX2_readInto 25 = .ok (.bipush 58, 2) := by decide +kernel
theorem dX2_readInto_27 : decode cX2_readInto 27 = .ok (.invokevirtual 38, 3) := by decide +kernel
theorem dX2_readInto_30 : decode cX2_readInto 30 = .ok (.aload_n 0, 1) := by decide +kernel
theorem dX2_readInto_31 : decode cX2_readInto 31 = .ok (.getfield 31, 3) := by decide +kernel
theorem dX2_readInto_34 : decode cX2_readInto 34 = .ok (.iconst (-1), 1) := by decide +kernel
theorem dX2_readInto_35 : decode cX2_readInto 35 = .ok (.if_icmp .ne 14, 3) := by decide +kernel
theorem dX2_readInto_38 : decode cX2_readInto 38 = .ok (.aload_n 1, 1) := by decide +kernel
theorem dX2_readInto_39 : decode cX2_readInto 39 = .ok (.iload_n 2, 1) := by decide +kernel
theorem dX2_readInto_40 : decode cX2_readInto 40 = .ok (.iload_n 3, 1) := by decide +kernel
theorem dX2_readInto_41 : decode cX2_readInto 41 = .ok (.invokevirtual 41, 3) := by decide +kernel
theorem dX2_readInto_44 : decode cX2_readInto 44 = .ok (.aload_n 0, 1) := by decide +kernel
theorem dX2_readInto_45 : decode cX2_readInto 45 = .ok (.aload_n 1, 1) := by decide +kernel
theorem dX2_readInto_46 : decode cX2_readInto 46 = .ok (.invokevirtual 46, 3) := by decide +kernel
theorem dX2_readInto_49 : decode cX2_readInto 49 = .ok (.iconst 0, 1) := by decide +kernel
theorem dX2_readInto_50 : decode cX2_readInto 50 = .ok (.istore 4, 2) := by decide +kernel
theorem dX2_readInto_52 : decode cX2_readInto 52 = .ok (.iload 4, 2) := by decide +kernel
theorem dX2_readInto_54 : decode cX2_readInto 54 = .ok (.sipush 150, 3) := by decide +kernel
theorem dX2_readInto_57 : decode cX2_readInto 57 = .ok (.if_icmp .ge 84, 3) := by decide +kernel
theorem dX2_readInto_60 : decode cX2_readInto 60 = .ok (.aload_n 0, 1) := by decide +kernel
theorem dX2_readInto_61 : decode cX2_readInto 61 = .ok (.getfield 31, 3) := by decide +kernel
theorem dX2_readInto_64 : decode cX2_readInto 64 = .ok (.iconst (-1), 1) := by decide +kernel
theorem dX2_readInto_65 : decode cX2_readInto 65 = .ok (.if_icmp .ne 76, 3) := by decide +kernel
theorem dX2_readInto_68 : decode cX2_readInto 68 = .ok (.aload_n 0, 1) := by decide +kernel
theorem dX2_readInto_69 : decode cX2_readInto 69 = .ok (.getfield 28, 3) := by decide +kernel
theorem dX2_readInto_72 : decode cX2_readInto 72 = .ok (.aload_n 0, 1) := by decide +kernel
theorem dX2_readInto_73 : decode cX2_readInto 73 = .ok (.getfield 20, 3) := by decide +kernel
theorem dX2_readInto_76 : decode cX2_readInto 76 = .ok (.if_icmp .ge 65, 3) := by decide +kernel
theorem dX2_readInto_79 : decode cX2_readInto 79 = .ok (.aload_n 0, 1) := by decide +kernel
theorem dX2_readInto_80 : decode cX2_readInto 80 = .ok (.bipush 59, 2) := by decide +kernel
theorem dX2_readInto_82 : decode cX2_readInto 82 = .ok (.invokevirtual 38, 3) := by decide +kernel
theorem dX2_readInto_85 : decode cX2_readInto 85 = .ok (.aload_n 0, 1) := by decide +kernel
theorem dX2_readInto_86 : decode cX2_readInto 86 = .ok (.invokevirtual 50, 3) := by decide +kernel
theorem dX2_readInto_89 : decode cX2_readInto 89 = .ok (.bipush 100, 2) := by decide +kernel
theorem dX2_readInto_91 : decode cX2_readInto 91 = .ok (.if_icmp .ne 7, 3) := by decide +kernel
theorem dX2_readInto_94 : decode cX2_readInto 94 = .ok (.iconst 1, 1) := by decide +kernel
theorem dX2_readInto_95 : decode cX2_readInto 95 = .ok (.goto 4, 3) := by decide +kernel
theorem dX2_readInto_98 : decode cX2_readInto 98 = .ok (.iconst 0, 1) := by decide +kernel
theorem dX2_readInto_99 : decode cX2_readInto 99 = .ok (.istore 5, 2) := by decide +kernel
theorem dX2_readInto_101 : decode cX2_readInto 101 = .ok (.aload_n 0, 1) := by decide +kernel
theorem dX2_readInto_102 : decode cX2_readInto 102 = .ok (.iload 5, 2) := by decide +kernel
theorem dX2_readInto_104 : decode cX2_readInto 104 = .ok (.ifCond .eq 8, 3) := by decide +kernel
theorem dX2_readInto_107 : decode cX2_readInto 107 = .ok (.bipush 100, 2) := by decide +kernel
theorem dX2_readInto_109 : decode cX2_readInto 109 = .ok (.goto 5, 3) := by decide +kernel
theorem dX2_readInto_112 : decode cX2_readInto 112 = .ok (.bipush 103, 2) := by decide +kernel
theorem dX2_readInto_114 : decode cX2_readInto 114 = .ok (.invokevirtual 38, 3) := by decide +kernel
theorem dX2_readInto_117 : decode cX2_readInto 117 = .ok (.iload 5, 2) := by decide +kernel
theorem dX2_readInto_119 : decode cX2_readInto 119 = .ok (.ifCond .eq 11, 3) := by decide +kernel
theorem dX2_readInto_122 : decode cX2_readInto 122 = .ok (.aload_n 0, 1) := by decide +kernel
theorem dX2_readInto_123 : decode cX2_readInto 123 = .ok (.aload_n 1, 1) := by decide +kernel
theorem dX2_readInto_124 : decode cX2_readInto 124 = .ok (.invokevirtual 54, 3) := by decide +kernel
theorem dX2_readInto_127 : decode cX2_readInto 127 = .ok (.goto 8, 3) := by decide +kernel
theorem dX2_readInto_130 : decode cX2_readInto 130 = .ok (.aload_n 0, 1) := by decide +kernel
theorem dX2_readInto_131 : decode cX2_readInto 131 = .ok (.aload_n 1, 1) := by decide +kernel
theorem dX2_readInto_132 : decode cX2_readInto 132 = .ok (.invokevirtual 57, 3) := by decide +kernel
theorem dX2_readInto_135 : decode cX2_readInto 135 = .ok (.iinc 4 1, 3) := by decide +kernel
theorem dX2_readInto_138 : decode cX2_readInto 138 = .ok (.goto (-86), 3) := by decide +kernel
theorem dX2_readInto_141 : decode cX2_readInto 141 = .ok (.aload_n 0, 1) := by decide +kernel
theorem dX2_readInto_142 : decode cX2_readInto 142 = .ok (.getfield 31, 3) := by decide +kernel
theorem dX2_readInto_145 : decode cX2_readInto 145 = .ok (.ireturn, 1) := by decide +kernel
theorem dX2_next_0 : decode cX2_next 0 = .ok (.aload_n 0, 1) := by decide +kernel
theorem dX2_next_1 : decode cX2_next 1 = .ok (.getfield 28, 3) := by decide +kernel
theorem dX2_next_4 : decode cX2_next 4 = .ok (.aload_n 0, 1) := by decide +kernel
theorem dX2_next_5 : decode cX2_next 5 = .ok (.getfield 20, 3) := by decide +kernel
theorem dX2_next_8 : decode cX2_next 8 = .ok (.if_icmp .ge 17, 3) := by decide +kernel
theorem dX2_next_11 : decode cX2_next 11 = .ok (.aload_n 0, 1) := by decide +kernel
theorem dX2_next_12 : decode cX2_next 12 = .ok (.getfield 14, 3) := by decide +kernel
theorem dX2_next_15 : decode cX2_next 15 = .ok (.aload_n 0, 1) := by decide +kernel
theorem dX2_next_16 : decode cX2_next 16 = .ok (.getfield 28, 3) := by decide +kernel
theorem dX2_next_19 : decode cX2_next 19 = .ok (.invokevirtual 60, 3) := by decide +kernel
theorem dX2_next_22 : decode cX2_next 22 = .ok (.goto 4, 3) := by decide +kernel
theorem dX2_next_25 : decode cX2_next 25 = .ok (.iconst (-1), 1) := by decide +kernel
theorem dX2_next_26 : decode cX2_next 26 = .ok (.ireturn, 1) := by decide +kernel
theorem dX2_isAtDigit_0 : decode cX2_isAtDigit 0 = .ok (.aload_n 0, 1) := by decide +kernel
theorem dX2_isAtDigit_1 : decode cX2_isAtDigit 1 = .ok (.invokevirtual 50, 3) := by decide +kernel
theorem dX2_isAtDigit_4 : decode cX2_isAtDigit 4 = .ok (.bipush 48, 2) := by decide +kernel
theorem dX2_isAtDigit_6 : decode cX2_isAtDigit 6 = .ok (.if_icmp .lt 16, 3) := by decide +kernel
theorem dX2_isAtDigit_9 : decode cX2_isAtDigit 9 = .ok (.aload_n 0, 1) := by decide +kernel
theorem dX2_isAtDigit_10 : decode cX2_isAtDigit 10 = .ok (.invokevirtual 50, 3) := by decide +kernel
theorem dX2_isAtDigit_13 : decode cX2_isAtDigit 13 = .ok (.bipush 57, 2) := by decide +kernel
theorem dX2_isAtDigit_15 : decode cX2_isAtDigit 15 = .ok (.if_icmp .gt 7, 3) := by decide +kernel
theorem dX2_isAtDigit_18 : decode cX2_isAtDigit 18 = .ok (.iconst 1, 1) := by decide +kernel
theorem dX2_isAtDigit_19 : decode cX2_isAtDigit 19 = .ok (.goto 4, 3) := by decide +kernel
theorem dX2_isAtDigit_22 : decode cX2_isAtDigit 22 = .ok (.iconst 0, 1) := by decide +kernel
theorem dX2_isAtDigit_23 : decode cX2_isAtDigit 23 = .ok (.ireturn, 1) := by decide +kernel
theorem dX2_readSign_0 : decode cX2_readSign 0 = .ok (.aload_n 0, 1) := by decide +kernel
theorem dX2_readSign_1 : decode cX2_readSign 1 = .ok (.getfield 31, 3) := by decide +kernel
theorem dX2_readSign_4 : decode cX2_readSign 4 = .ok (.iconst (-1), 1) := by decide +kernel
theorem dX2_readSign_5 : decode cX2_readSign 5 = .ok (.if_icmp .ne 24, 3) := by decide +kernel
theorem dX2_readSign_8 : decode cX2_readSign 8 = .ok (.aload_n 0, 1) := by decide +kernel
theorem dX2_readSign_9 : decode cX2_readSign 9 = .ok (.invokevirtual 50, 3) := by decide +kernel
theorem dX2_readSign_12 : decode cX2_readSign 12 = .ok (.iload_n 1, 1) := by decide +kernel
theorem dX2_readSign_13 : decode cX2_readSign 13 = .ok (.if_icmp .ne 16, 3) := by decide +kernel
theorem dX2_readSign_16 : decode cX2_readSign 16 = .ok (.aload_n 0, 1) := by decide +kernel
theorem dX2_readSign_17 : decode cX2_readSign 17 = .ok (.dup, 1) := by decide +kernel
theorem dX2_readSign_18 : decode cX2_readSign 18 = .ok (.getfield 28, 3) := by decide +kernel
theorem dX2_readSign_21 : decode cX2_readSign 21 = .ok (.iconst 1, 1) := by decide +kernel
theorem dX2_readSign_22 : decode cX2_readSign 22 = .ok (.iadd, 1) := by decide +kernel
theorem dX2_readSign_23 : decode cX2_readSign 23 = .ok (.putfield 28, 3) := by decide +kernel
theorem dX2_readSign_26 : decode cX2_readSign 26 = .ok (.goto 11, 3) := by decide +kernel
theorem dX2_readSign_29 : decode cX2_readSign 29 = .ok (.aload_n 0, 1) := by decide +kernel
theorem dX2_readSign_30 : decode cX2_readSign 30 = .ok (.aload_n 0, 1) := by decide +kernel
theorem dX2_readSign_31 : decode cX2_readSign 31 = .ok (.getfield 28, 3) := by decide +kernel
theorem dX2_readSign_34 : decode cX2_readSign 34 = .ok (.invokevirtual 63, 3) := by decide +kernel
theorem dX2_readSign_37 : decode cX2_readSign 37 = .ok (.return_, 1) := by decide +kernel
theorem dX2_fail_0 : decode cX2_fail 0 = .ok (.aload_n 0, 1) := by decide +kernel
theorem dX2_fail_1 : decode cX2_fail 1 = .ok (.aload_n 0, 1) := by decide +kernel
theorem dX2_fail_2 : decode cX2_fail 2 = .ok (.getfield 31, 3) := by decide +kernel
theorem dX2_fail_5 : decode cX2_fail 5 = .ok (.iconst (-1), 1) := by decide +kernel
theorem dX2_fail_6 : decode cX2_fail 6 = .ok (.if_icmp .ne 7, 3) := by decide +kernel
theorem dX2_fail_9 : decode cX2_fail 9 = .ok (.iload_n 1, 1) := by decide +kernel
theorem dX2_fail_10 : decode cX2_fail 10 = .ok (.goto 7, 3) := by decide +kernel
theorem dX2_fail_13 : decode cX2_fail 13 = .ok (.aload_n 0, 1) := by decide +kernel
theorem dX2_fail_14 : decode cX2_fail 14 = .ok (.getfield 31, 3) := by decide +kernel
theorem dX2_fail_17 : decode cX2_fail 17 = .ok (.putfield 31, 3) := by decide +kernel
theorem dX2_fail_20 : decode cX2_fail 20 = .ok (.return_, 1) := by decide +kernel
theorem dX2_readSize_0 : decode cX2_readSize 0 = .ok (.aload_n 0, 1) := by decide +kernel
theorem dX2_readSize_1 : decode cX2_readSize 1 = .ok (.invokevirtual 50, 3) := by decide +kernel
theorem dX2_readSize_4 : decode cX2_readSize 4 = .ok (.bipush 48, 2) := by decide +kernel
theorem dX2_readSize_6 : decode cX2_readSize 6 = .ok (.isub, 1) := by decide +kernel
theorem dX2_readSize_7 : decode cX2_readSize 7 = .ok (.istore_n 2, 1) := by decide +kernel
theorem dX2_readSize_8 : decode cX2_readSize 8 = .ok (.aload_n 0, 1) := by decide +kernel
theorem dX2_readSize_9 : decode cX2_readSize 9 = .ok (.getfield 31, 3) := by decide +kernel
theorem dX2_readSize_12 : decode cX2_readSize 12 = .ok (.iconst (-1), 1) := by decide +kernel
theorem dX2_readSize_13 : decode cX2_readSize 13 = .ok (.if_icmp .ne 26, 3) := by decide +kernel
theorem dX2_readSize_16 : decode cX2_readSize 16 = .ok (.iload_n 2, 1) := by decide +kernel
theorem dX2_readSize_17 : decode cX2_readSize 17 = .ok (.iconst 1, 1) := by decide +kernel
theorem dX2_readSize_18 : decode cX2_readSize 18 = .ok (.if_icmp .lt 21, 3) := by decide +kernel
theorem dX2_readSize_21 : decode cX2_readSize 21 = .ok (.iload_n 2, 1) := by decide +kernel
theorem dX2_readSize_22 : decode cX2_readSize 22 = .ok (.iload_n 1, 1) := by decide +kernel
theorem dX2_readSize_23 : decode cX2_readSize 23 = .ok (.if_icmp .gt 16, 3) := by decide +kernel
theorem dX2_readSize_26 : decode cX2_readSize 26 = .ok (.aload_n 0, 1) := by decide +kernel
theorem dX2_readSize_27 : decode cX2_readSize 27 = .ok (.dup, 1) := by decide +kernel
theorem dX2_readSize_28 : decode cX2_readSize 28 = .ok (.getfield 28, 3) := by decide +kernel
theorem dX2_readSize_31 : decode cX2_readSize 31 = .ok (.iconst 1, 1) := by decide +kernel
theorem dX2_readSize_32 : decode cX2_readSize 32 = .ok (.iadd, 1) := by decide +kernel
theorem dX2_readSize_33 : decode cX2_readSize 33 = .ok (.putfield 28, 3) := by decide +kernel
theorem dX2_readSize_36 : decode cX2_readSize 36 = .ok (.goto 11, 3) := by decide +kernel
theorem dX2_readSize_39 : decode cX2_readSize 39 = .ok (.aload_n 0, 1) := by decide +kernel
theorem dX2_readSize_40 : decode cX2_readSize 40 = .ok (.aload_n 0, 1) := by decide +kernel
theorem dX2_readSize_41 : decode cX2_readSize 41 = .ok (.getfield 28, 3) := by decide +kernel
theorem dX2_readSize_44 : decode cX2_readSize 44 = .ok (.invokevirtual 63, 3) := by decide +kernel
theorem dX2_readSize_47 : decode cX2_readSize 47 = .ok (.iload_n 2, 1) := by decide +kernel
theorem dX2_readSize_48 : decode cX2_readSize 48 = .ok (.ireturn, 1) := by decide +kernel
theorem dX2_readNumber_0 : decode cX2_readNumber 0 = .ok (.iconst 0, 1) := by decide +kernel
theorem dX2_readNumber_1 : decode cX2_readNumber 1 = .ok (.istore_n 1, 1) := by decide +kernel
theorem dX2_readNumber_2 : decode cX2_readNumber 2 = .ok (.aload_n 0, 1) := by decide +kernel
theorem dX2_readNumber_3 : decode cX2_readNumber 3 = .ok (.invokevirtual 66, 3) := by decide +kernel
theorem dX2_readNumber_6 : decode cX2_readNumber 6 = .ok (.ifCond .ne 11, 3) := by decide +kernel
theorem dX2_readNumber_9 : decode cX2_readNumber 9 = .ok (.aload_n 0, 1) := by decide +kernel
theorem dX2_readNumber_10 : decode cX2_readNumber 10 = .ok (.aload_n 0, 1) := by decide +kernel
theorem dX2_readNumber_11 : decode cX2_readNumber 11 = .ok (.getfield 28, 3) := by decide +kernel
theorem dX2_readNumber_14 : decode cX2_readNumber 14 = .ok (.invokevirtual 63, 3) := by decide +kernel
theorem dX2_readNumber_17 : decode cX2_readNumber 17 = .ok (.iconst 0, 1) := by decide +kernel
theorem dX2_readNumber_18 : decode cX2_readNumber 18 = .ok (.istore_n 2, 1) := by decide +kernel
theorem dX2_readNumber_19 : decode cX2_readNumber 19 = .ok (.iload_n 2, 1) := by decide +kernel
theorem dX2_readNumber_20 : decode cX2_readNumber 20 = .ok (.iconst 2, 1) := by decide +kernel
theorem dX2_readNumber_21 : decode cX2_readNumber 21 = .ok (.if_icmp .ge 47, 3) := by decide +kernel
theorem dX2_readNumber_24 : decode cX2_readNumber 24 = .ok (.aload_n 0, 1) := by decide +kernel
theorem dX2_readNumber_25 : decode cX2_readNumber 25 = .ok (.getfield 31, 3) := by decide +kernel
theorem dX2_readNumber_28 : decode cX2_readNumber 28 = .ok (.iconst (-1), 1) := by decide +kernel
theorem dX2_readNumber_29 : decode cX2_readNumber 29 = .ok (.if_icmp .ne 39, 3) := by decide +kernel
theorem dX2_readNumber_32 : decode cX2_readNumber 32 = .ok (.aload_n 0, 1) := by decide +kernel
theorem dX2_readNumber_33 : decode cX2_readNumber 33 = .ok (.invokevirtual 66, 3) := by decide +kernel
theorem dX2_readNumber_36 : decode cX2_readNumber 36 = .ok (.ifCond .eq 32, 3) := by decide +kernel
theorem dX2_readNumber_39 : decode cX2_readNumber 39 = .ok (.bipush 10, 2) := by decide +kernel
theorem dX2_readNumber_41 : decode cX2_readNumber 41 = .ok (.iload_n 1, 1) := by decide +kernel
theorem dX2_readNumber_42 : decode cX2_readNumber 42 = .ok (.imul, 1) := by decide +kernel
theorem dX2_readNumber_43 : decode cX2_readNumber 43 = .ok (.aload_n 0, 1) := by decide +kernel
theorem dX2_readNumber_44 : decode cX2_readNumber 44 = .ok (.invokevirtual 50, 3) := by decide +kernel
theorem dX2_readNumber_47 : decode cX2_readNumber 47 = .ok (.iadd, 1) := by decide +kernel
theorem dX2_readNumber_48 : decode cX2_readNumber 48 = .ok (.bipush 48, 2) := by decide +kernel
theorem dX2_readNumber_50 : decode cX2_readNumber 50 = .ok (.isub, 1) := by decide +kernel
theorem dX2_readNumber_51 : decode cX2_readNumber 51 = .ok (.istore_n 1, 1) := by decide +kernel
theorem dX2_readNumber_52 : decode cX2_readNumber 52 = .ok (.aload_n 0, 1) := by decide +kernel
theorem dX2_readNumber_53 : decode cX2_readNumber 53 = .ok (.dup, 1) := by decide +kernel
theorem dX2_readNumber_54 : decode cX2_readNumber 54 = .ok (.getfield 28, 3) := by decide +kernel
theorem dX2_readNumber_57 : decode cX2_readNumber 57 = .ok (.iconst 1, 1) := by decide +kernel
theorem dX2_readNumber_58 : decode cX2_readNumber 58 = .ok (.iadd, 1) := by decide +kernel
theorem dX2_readNumber_59 : decode cX2_readNumber 59 = .ok (.putfield 28, 3) := by decide +kernel
theorem dX2_readNumber_62 : decode cX2_readNumber 62 = .ok (.iinc 2 1, 3) := by decide +kernel
theorem dX2_readNumber_65 : decode cX2_readNumber 65 = .ok (.goto (-46), 3) := by decide +kernel
theorem dX2_readNumber_68 : decode cX2_readNumber 68 = .ok (.aload_n 0, 1) := by decide +kernel
theorem dX2_readNumber_69 : decode cX2_readNumber 69 = .ok (.invokevirtual 66, 3) := by decide +kernel
theorem dX2_readNumber_72 : decode cX2_readNumber 72 = .ok (.ifCond .eq 11, 3) := by decide +kernel
theorem dX2_readNumber_75 : decode cX2_readNumber 75 = .ok (.aload_n 0, 1) := by decide +kernel
theorem dX2_readNumber_76 : decode cX2_readNumber 76 = .ok (.aload_n 0, 1) := by decide +kernel
theorem dX2_readNumber_77 : decode cX2_readNumber 77 = .ok (.getfield 28, 3) := by decide +kernel
theorem dX2_readNumber_80 : decode cX2_readNumber 80 = .ok (.invokevirtual 63, 3) := by decide +kernel
theorem dX2_readNumber_83 : decode cX2_readNumber 83 = .ok (.iload_n 1, 1) := by decide +kernel
theorem dX2_readNumber_84 : decode cX2_readNumber 84 = .ok (.ireturn, 1) := by decide +kernel
theorem dX2_readHeights_0 : decode cX2_readHeights 0 = .ok (.iconst 0, 1) := by decide +kernel
theorem dX2_readHeights_1 : decode cX2_readHeights 1 = .ok (.istore_n 2, 1) := by decide +kernel
theorem dX2_readHeights_2 : decode cX2_readHeights 2 = .ok (.iload_n 2, 1) := by decide +kernel
theorem dX2_readHeights_3 : decode cX2_readHeights 3 = .ok (.aload_n 1, 1) := by decide +kernel
theorem dX2_readHeights_4 : decode cX2_readHeights 4 = .ok (.getfield 70, 3) := by decide +kernel
theorem dX2_readHeights_7 : decode cX2_readHeights 7 = .ok (.if_icmp .ge 31, 3) := by decide +kernel
theorem dX2_readHeights_10 : decode cX2_readHeights 10 = .ok (.iload_n 2, 1) := by decide +kernel
theorem dX2_readHeights_11 : decode cX2_readHeights 11 = .ok (.ifCond .le 9, 3) := by decide +kernel
theorem dX2_readHeights_14 : decode cX2_readHeights 14 = .ok (.aload_n 0, 1) := by decide +kernel
theorem dX2_readHeights_15 : decode cX2_readHeights 15 = .ok (.bipush 44, 2) := by decide +kernel
theorem dX2_readHeights_17 : decode cX2_readHeights 17 = .ok (.invokevirtual 38, 3) := by decide +kernel
theorem dX2_readHeights_20 : decode cX2_readHeights 20 = .ok (.aload_n 1, 1) := by decide +kernel
theorem dX2_readHeights_21 : decode cX2_readHeights 21 = .ok (.getfield 73, 3) := by decide +kernel
theorem dX2_readHeights_24 : decode cX2_readHeights 24 = .ok (.iload_n 2, 1) := by decide +kernel
theorem dX2_readHeights_25 : decode cX2_readHeights 25 = .ok (.aload_n 0, 1) := by decide +kernel
theorem dX2_readHeights_26 : decode cX2_readHeights 26 = .ok (.invokevirtual 76, 3) := by decide +kernel
theorem dX2_readHeights_29 : decode cX2_readHeights 29 = .ok (.invokevirtual 24, 3) := by decide +kernel
theorem dX2_readHeights_32 : decode cX2_readHeights 32 = .ok (.iinc 2 1, 3) := by decide +kernel
theorem dX2_readHeights_35 : decode cX2_readHeights 35 = .ok (.goto (-33), 3) := by decide +kernel
theorem dX2_readHeights_38 : decode cX2_readHeights 38 = .ok (.return_, 1) := by decide +kernel
theorem dX2_readDrain_0 : decode cX2_readDrain 0 = .ok (.aload_n 0, 1) := by decide +kernel
theorem dX2_readDrain_1 : decode cX2_readDrain 1 = .ok (.getfield 28, 3) := by decide +kernel
theorem dX2_readDrain_4 : decode cX2_readDrain 4 = .ok (.istore_n 2, 1) := by decide +kernel
theorem dX2_readDrain_5 : decode cX2_readDrain 5 = .ok (.aload_n 0, 1) := by decide +kernel
theorem dX2_readDrain_6 : decode cX2_readDrain 6 = .ok (.invokevirtual 76, 3) := by decide +kernel
theorem dX2_readDrain_9 : decode cX2_readDrain 9 = .ok (.istore_n 3, 1) := by decide +kernel
theorem dX2_readDrain_10 : decode cX2_readDrain 10 = .ok (.aload_n 1, 1) := by decide +kernel
theorem dX2_readDrain_11 : decode cX2_readDrain 11 = .ok (.iload_n 3, 1) := by decide +kernel
theorem dX2_readDrain_12 : decode cX2_readDrain 12 = .ok (.invokevirtual 79, 3) := by decide +kernel
theorem dX2_readDrain_15 : decode cX2_readDrain 15 = .ok (.ifCond .ne 8, 3) := by decide +kernel
theorem dX2_readDrain_18 : decode cX2_readDrain 18 = .ok (.aload_n 0, 1) := by decide +kernel
theorem dX2_readDrain_19 : decode cX2_readDrain 19 = .ok (.iload_n 2, 1) := by decide +kernel
theorem dX2_readDrain_20 : decode cX2_readDrain 20 = .ok (.invokevirtual 63, 3) := by decide +kernel
theorem dX2_readDrain_23 : decode cX2_readDrain 23 = .ok (.aload_n 0, 1) := by decide +kernel
theorem dX2_readDrain_24 : decode cX2_readDrain 24 = .ok (.getfield 31, 3) := by decide +kernel
theorem dX2_readDrain_27 : decode cX2_readDrain 27 = .ok (.iconst (-1), 1) := by decide +kernel
theorem dX2_readDrain_28 : decode cX2_readDrain 28 = .ok (.if_icmp .ne 9, 3) := by decide +kernel
theorem dX2_readDrain_31 : decode cX2_readDrain 31 = .ok (.aload_n 1, 1) := by decide +kernel
theorem dX2_readDrain_32 : decode cX2_readDrain 32 = .ok (.iload_n 3, 1) := by decide +kernel
theorem dX2_readDrain_33 : decode cX2_readDrain 33 = .ok (.iconst 1, 1) := by decide +kernel
theorem dX2_readDrain_34 : decode cX2_readDrain 34 = .ok (.invokevirtual 83, 3) := by decide +kernel
theorem dX2_readDrain_37 : decode cX2_readDrain 37 = .ok (.return_, 1) := by decide +kernel
theorem dX2_readGate_0 : decode cX2_readGate 0 = .ok (.aload_n 0, 1) := by decide +kernel
theorem dX2_readGate_1 : decode cX2_readGate 1 = .ok (.getfield 28, 3) := by decide +kernel
theorem dX2_readGate_4 : decode cX2_readGate 4 = .ok (.istore_n 2, 1) := by decide +kernel
theorem dX2_readGate_5 : decode cX2_readGate 5 = .ok (.aload_n 0, 1) := by decide +kernel
theorem dX2_readGate_6 : decode cX2_readGate 6 = .ok (.invokevirtual 76, 3) := by decide +kernel
theorem dX2_readGate_9 : decode cX2_readGate 9 = .ok (.istore_n 3, 1) := by decide +kernel
theorem dX2_readGate_10 : decode cX2_readGate 10 = .ok (.aload_n 1, 1) := by decide +kernel
theorem dX2_readGate_11 : decode cX2_readGate 11 = .ok (.iload_n 3, 1) := by decide +kernel
theorem dX2_readGate_12 : decode cX2_readGate 12 = .ok (.invokevirtual 79, 3) := by decide +kernel
theorem dX2_readGate_15 : decode cX2_readGate 15 = .ok (.ifCond .ne 8, 3) := by decide +kernel
theorem dX2_readGate_18 : decode cX2_readGate 18 = .ok (.aload_n 0, 1) := by decide +kernel
theorem dX2_readGate_19 : decode cX2_readGate 19 = .ok (.iload_n 2, 1) := by decide +kernel
theorem dX2_readGate_20 : decode cX2_readGate 20 = .ok (.invokevirtual 63, 3) := by decide +kernel
theorem dX2_readGate_23 : decode cX2_readGate 23 = .ok (.aload_n 0, 1) := by decide +kernel
theorem dX2_readGate_24 : decode cX2_readGate 24 = .ok (.bipush 44, 2) := by decide +kernel
theorem dX2_readGate_26 : decode cX2_readGate 26 = .ok (.invokevirtual 38, 3) := by decide +kernel
theorem dX2_readGate_29 : decode cX2_readGate 29 = .ok (.aload_n 0, 1) := by decide +kernel
theorem dX2_readGate_30 : decode cX2_readGate 30 = .ok (.getfield 28, 3) := by decide +kernel
theorem dX2_readGate_33 : decode cX2_readGate 33 = .ok (.istore 4, 2) := by decide +kernel
theorem dX2_readGate_35 : decode cX2_readGate 35 = .ok (.aload_n 0, 1) := by decide +kernel
theorem dX2_readGate_36 : decode cX2_readGate 36 = .ok (.invokevirtual 76, 3) := by decide +kernel
theorem dX2_readGate_39 : decode cX2_readGate 39 = .ok (.istore 5, 2) := by decide +kernel
theorem dX2_readGate_41 : decode cX2_readGate 41 = .ok (.aload_n 1, 1) := by decide +kernel
theorem dX2_readGate_42 : decode cX2_readGate 42 = .ok (.iload_n 3, 1) := by decide +kernel
theorem dX2_readGate_43 : decode cX2_readGate 43 = .ok (.iload 5, 2) := by decide +kernel
theorem dX2_readGate_45 : decode cX2_readGate 45 = .ok (.invokevirtual 87, 3) := by decide +kernel
theorem dX2_readGate_48 : decode cX2_readGate 48 = .ok (.iconst (-1), 1) := by decide +kernel
theorem dX2_readGate_49 : decode cX2_readGate 49 = .ok (.if_icmp .ne 9, 3) := by decide +kernel
theorem dX2_readGate_52 : decode cX2_readGate 52 = .ok (.aload_n 0, 1) := by decide +kernel
theorem dX2_readGate_53 : decode cX2_readGate 53 = .ok (.iload 4, 2) := by decide +kernel
theorem dX2_readGate_55 : decode cX2_readGate 55 = .ok (.invokevirtual 63, 3) := by decide +kernel
theorem dX2_readGate_58 : decode cX2_readGate 58 = .ok (.aload_n 0, 1) := by decide +kernel
theorem dX2_readGate_59 : decode cX2_readGate 59 = .ok (.bipush 44, 2) := by decide +kernel
theorem dX2_readGate_61 : decode cX2_readGate 61 = .ok (.invokevirtual 38, 3) := by decide +kernel
theorem dX2_readGate_64 : decode cX2_readGate 64 = .ok (.aload_n 0, 1) := by decide +kernel
theorem dX2_readGate_65 : decode cX2_readGate 65 = .ok (.invokevirtual 76, 3) := by decide +kernel
theorem dX2_readGate_68 : decode cX2_readGate 68 = .ok (.istore 6, 2) := by decide +kernel
theorem dX2_readGate_70 : decode cX2_readGate 70 = .ok (.aload_n 0, 1) := by decide +kernel
theorem dX2_readGate_71 : decode cX2_readGate 71 = .ok (.getfield 31, 3) := by decide +kernel
theorem dX2_readGate_74 : decode cX2_readGate 74 = .ok (.iconst (-1), 1) := by decide +kernel
theorem dX2_readGate_75 : decode cX2_readGate 75 = .ok (.if_icmp .ne 12, 3) := by decide +kernel
theorem dX2_readGate_78 : decode cX2_readGate 78 = .ok (.aload_n 1, 1) := by decide +kernel
theorem dX2_readGate_79 : decode cX2_readGate 79 = .ok (.iload_n 3, 1) := by decide +kernel
theorem dX2_readGate_80 : decode cX2_readGate 80 = .ok (.iload 5, 2) := by decide +kernel
theorem dX2_readGate_82 : decode cX2_readGate 82 = .ok (.iload 6, 2) := by decide +kernel
theorem dX2_readGate_84 : decode cX2_readGate 84 = .ok (.invokevirtual 91, 3) := by decide +kernel
theorem dX2_readGate_87 : decode cX2_readGate 87 = .ok (.return_, 1) := by decide +kernel
