theorem dX8_init_0 : decode cX8_init 0 = .ok (.aload_n 0, 1) := by decide +kernel
theorem dX8_init_1 : decode cX8_init 1 = .ok (.invokespecial 1, 3) := by decide +kernel
theorem dX8_init_4 : decode cX8_init 4 = .ok (.aload_n 0, 1) := by decide +kernel
theorem dX8_init_5 : decode cX8_init 5 = .ok (.sipush 513, 3) := by decide +kernel
theorem dX8_init_8 : decode cX8_init 8 = .ok (.newarray .long, 2) := by decide +kernel
theorem dX8_init_10 : decode cX8_init 10 = .ok (.putfield 7, 3) := by decide +kernel
theorem dX8_init_13 : decode cX8_init 13 = .ok (.aload_n 0, 1) := by decide +kernel
theorem dX8_init_14 : decode cX8_init 14 = .ok (.sipush 2052, 3) := by decide +kernel
theorem dX8_init_17 : decode cX8_init 17 = .ok (.newarray .long, 2) := by decide +kernel
theorem dX8_init_19 : decode cX8_init 19 = .ok (.putfield 13, 3) := by decide +kernel
theorem dX8_init_22 : decode cX8_init 22 = .ok (.aload_n 0, 1) := by decide +kernel
theorem dX8_init_23 : decode cX8_init 23 = .ok (.sipush 513, 3) := by decide +kernel
theorem dX8_init_26 : decode cX8_init 26 = .ok (.newarray .long, 2) := by decide +kernel
theorem dX8_init_28 : decode cX8_init 28 = .ok (.putfield 16, 3) := by decide +kernel
theorem dX8_init_31 : decode cX8_init 31 = .ok (.aload_n 0, 1) := by decide +kernel
theorem dX8_init_32 : decode cX8_init 32 = .ok (.bipush 36, 2) := by decide +kernel
theorem dX8_init_34 : decode cX8_init 34 = .ok (.newarray .long, 2) := by decide +kernel
theorem dX8_init_36 : decode cX8_init 36 = .ok (.putfield 19, 3) := by decide +kernel
theorem dX8_init_39 : decode cX8_init 39 = .ok (.aload_n 0, 1) := by decide +kernel
theorem dX8_init_40 : decode cX8_init 40 = .ok (.bipush 72, 2) := by decide +kernel
theorem dX8_init_42 : decode cX8_init 42 = .ok (.newarray .int, 2) := by decide +kernel
theorem dX8_init_44 : decode cX8_init 44 = .ok (.putfield 22, 3) := by decide +kernel
theorem dX8_init_47 : decode cX8_init 47 = .ok (.aload_n 0, 1) := by decide +kernel
theorem dX8_init_48 : decode cX8_init 48 = .ok (.bipush 72, 2) := by decide +kernel
theorem dX8_init_50 : decode cX8_init 50 = .ok (.newarray .long, 2) := by decide +kernel
theorem dX8_init_52 : decode cX8_init 52 = .ok (.putfield 26, 3) := by decide +kernel
theorem dX8_init_55 : decode cX8_init 55 = .ok (.aload_n 0, 1) := by decide +kernel
theorem dX8_init_56 : decode cX8_init 56 = .ok (.bipush 36, 2) := by decide +kernel
theorem dX8_init_58 : decode cX8_init 58 = .ok (.newarray .int, 2) := by decide +kernel
theorem dX8_init_60 : decode cX8_init 60 = .ok (.putfield 29, 3) := by decide +kernel
theorem dX8_init_63 : decode cX8_init 63 = .ok (.aload_n 0, 1) := by decide +kernel
theorem dX8_init_64 : decode cX8_init 64 = .ok (.bipush 36, 2) := by decide +kernel
theorem dX8_init_66 : decode cX8_init 66 = .ok (.newarray .long, 2) := by decide +kernel
theorem dX8_init_68 : decode cX8_init 68 = .ok (.putfield 32, 3) := by decide +kernel
theorem dX8_init_71 : decode cX8_init 71 = .ok (.aload_n 0, 1) := by decide +kernel
theorem dX8_init_72 : decode cX8_init 72 = .ok (.bipush 36, 2) := by decide +kernel
theorem dX8_init_74 : decode cX8_init 74 = .ok (.newarray .int, 2) := by decide +kernel
theorem dX8_init_76 : decode cX8_init 76 = .ok (.putfield 35, 3) := by decide +kernel
theorem dX8_init_79 : decode cX8_init 79 = .ok (.aload_n 0, 1) := by decide +kernel
theorem dX8_init_80 : decode cX8_init 80 = .ok (.bipush 36, 2) := by decide +kernel
theorem dX8_init_82 : decode cX8_init 82 = .ok (.newarray .int, 2) := by decide +kernel
theorem dX8_init_84 : decode cX8_init 84 = .ok (.putfield 38, 3) := by decide +kernel
theorem dX8_init_87 : decode cX8_init 87 = .ok (.aload_n 0, 1) := by decide +kernel
theorem dX8_init_88 : decode cX8_init 88 = .ok (.bipush 36, 2) := by decide +kernel
theorem dX8_init_90 : decode cX8_init 90 = .ok (.newarray .long, 2) := by decide +kernel
theorem dX8_init_92 : decode cX8_init 92 = .ok (.putfield 41, 3) := by decide +kernel
theorem dX8_init_95 : decode cX8_init 95 = .ok (.aload_n 0, 1) := by decide +kernel
theorem dX8_init_96 : decode cX8_init 96 = .ok (.sipush 150, 3) := by decide +kernel
theorem dX8_init_99 : decode cX8_init 99 = .ok (.newarray .int, 2) := by decide +kernel
theorem dX8_init_101 : decode cX8_init 101 = .ok (.putfield 44, 3) := by decide +kernel
theorem dX8_init_104 : decode cX8_init 104 = .ok (.aload_n 0, 1) := by decide +kernel
theorem dX8_init_105 : decode cX8_init 105 = .ok (.bipush 36, 2) := by decide +kernel
theorem dX8_init_107 : decode cX8_init 107 = .ok (.newarray .int, 2) := by decide +kernel
theorem dX8_init_109 : decode cX8_init 109 = .ok (.putfield 47, 3) := by decide +kernel
theorem dX8_init_112 : decode cX8_init 112 = .ok (.aload_n 0, 1) := by decide +kernel
theorem dX8_init_113 : decode cX8_init 113 = .ok (.iconst 1, 1) := by decide +kernel
theorem dX8_init_114 : decode cX8_init 114 = .ok (.iconst 1, 1) := by decide +kernel
theorem dX8_init_115 : decode cX8_init 115 = .ok (.invokevirtual 50, 3) := by decide +kernel
theorem dX8_init_118 : decode cX8_init 118 = .ok (.return_, 1) := by decide +kernel
theorem dX8_thrown_0 : decode cX8_thrown 0 = .ok (.aload_n 0, 1) := by decide +kernel
theorem dX8_thrown_1 : decode cX8_thrown 1 = .ok (.getfield 54, 3) := by decide +kernel
theorem dX8_thrown_4 : decode cX8_thrown 4 = .ok (.ireturn, 1) := by decide +kernel
theorem dX8_in_0 : decode cX8_in 0 = .ok (.lload_n 0, 1) := by decide +kernel
theorem dX8_in_1 : decode cX8_in 1 = .ok (.lload_n 2, 1) := by decide +kernel
theorem dX8_in_2 : decode cX8_in 2 = .ok (.lcmp, 1) := by decide +kernel
theorem dX8_in_3 : decode cX8_in 3 = .ok (.ifCond .lt 14, 3) := by decide +kernel
theorem dX8_in_6 : decode cX8_in 6 = .ok (.lload_n 0, 1) := by decide +kernel
theorem dX8_in_7 : decode cX8_in 7 = .ok (.lload 4, 2) := by decide +kernel
theorem dX8_in_9 : decode cX8_in 9 = .ok (.lcmp, 1) := by decide +kernel
theorem dX8_in_10 : decode cX8_in 10 = .ok (.ifCond .gt 7, 3) := by decide +kernel
theorem dX8_in_13 : decode cX8_in 13 = .ok (.iconst 1, 1) := by decide +kernel
theorem dX8_in_14 : decode cX8_in 14 = .ok (.goto 4, 3) := by decide +kernel
theorem dX8_in_17 : decode cX8_in 17 = .ok (.iconst 0, 1) := by decide +kernel
theorem dX8_in_18 : decode cX8_in 18 = .ok (.ireturn, 1) := by decide +kernel
theorem dX8_goes_0 : decode cX8_goes 0 = .ok (.aload_n 0, 1) := by decide +kernel
theorem dX8_goes_1 : decode cX8_goes 1 = .ok (.iload_n 1, 1) := by decide +kernel
theorem dX8_goes_2 : decode cX8_goes 2 = .ok (.ifCond .ne 7, 3) := by decide +kernel
theorem dX8_goes_5 : decode cX8_goes 5 = .ok (.iconst 1, 1) := by decide +kernel
theorem dX8_goes_6 : decode cX8_goes 6 = .ok (.goto 20, 3) := by decide +kernel
theorem dX8_goes_9 : decode cX8_goes 9 = .ok (.iload_n 2, 1) := by decide +kernel
theorem dX8_goes_10 : decode cX8_goes 10 = .ok (.ifCond .ne 7, 3) := by decide +kernel
theorem dX8_goes_13 : decode cX8_goes 13 = .ok (.iconst 2, 1) := by decide +kernel
theorem dX8_goes_14 : decode cX8_goes 14 = .ok (.goto 12, 3) := by decide +kernel
theorem dX8_goes_17 : decode cX8_goes 17 = .ok (.iload_n 3, 1) := by decide +kernel
theorem dX8_goes_18 : decode cX8_goes 18 = .ok (.ifCond .ne 7, 3) := by decide +kernel
theorem dX8_goes_21 : decode cX8_goes 21 = .ok (.iconst 3, 1) := by decide +kernel
theorem dX8_goes_22 : decode cX8_goes 22 = .ok (.goto 4, 3) := by decide +kernel
theorem dX8_goes_25 : decode cX8_goes 25 = .ok (.iconst 0, 1) := by decide +kernel
theorem dX8_goes_26 : decode cX8_goes 26 = .ok (.putfield 54, 3) := by decide +kernel
theorem dX8_goes_29 : decode cX8_goes 29 = .ok (.aload_n 0, 1) := by decide +kernel
theorem dX8_goes_30 : decode cX8_goes 30 = .ok (.getfield 54, 3) := by decide +kernel
theorem dX8_goes_33 : decode cX8_goes 33 = .ok (.ifCond .ne 7, 3) := by decide +kernel
theorem dX8_goes_36 : decode cX8_goes 36 = .ok (.iconst 1, 1) := by decide +kernel
theorem dX8_goes_37 : decode cX8_goes 37 = .ok (.goto 4, 3) := by decide +kernel
theorem dX8_goes_40 : decode cX8_goes 40 = .ok (.iconst 0, 1) := by decide +kernel
theorem dX8_goes_41 : decode cX8_goes 41 = .ok (.ireturn, 1) := by decide +kernel
theorem dX8_save_0 : decode cX8_save 0 = .ok (.aload_n 0, 1) := by decide +kernel
theorem dX8_save_1 : decode cX8_save 1 = .ok (.getfield 58, 3) := by decide +kernel
theorem dX8_save_4 : decode cX8_save 4 = .ok (.iconst 4, 1) := by decide +kernel
theorem dX8_save_5 : decode cX8_save 5 = .ok (.if_icmp .ne 44, 3) := by decide +kernel
theorem dX8_save_8 : decode cX8_save 8 = .ok (.iconst 0, 1) := by decide +kernel
theorem dX8_save_9 : decode cX8_save 9 = .ok (.istore_n 1, 1) := by decide +kernel
theorem dX8_save_10 : decode cX8_save 10 = .ok (.iload_n 1, 1) := by decide +kernel
theorem dX8_save_11 : decode cX8_save 11 = .ok (.sipush 1539, 3) := by decide +kernel
theorem dX8_save_14 : decode cX8_save 14 = .ok (.if_icmp .ge 25, 3) := by decide +kernel
theorem dX8_save_17 : decode cX8_save 17 = .ok (.aload_n 0, 1) := by decide +kernel
theorem dX8_save_18 : decode cX8_save 18 = .ok (.getfield 13, 3) := by decide +kernel
theorem dX8_save_21 : decode cX8_save 21 = .ok (.iload_n 1, 1) := by decide +kernel
theorem dX8_save_22 : decode cX8_save 22 = .ok (.aload_n 0, 1) := by decide +kernel
theorem dX8_save_23 : decode cX8_save 23 = .ok (.getfield 13, 3) := by decide +kernel
theorem dX8_save_26 : decode cX8_save 26 = .ok (.iload_n 1, 1) := by decide +kernel
theorem dX8_save_27 : decode cX8_save 27 = .ok (.sipush 513, 3) := by decide +kernel
theorem dX8_save_30 : decode cX8_save 30 = .ok (.iadd, 1) := by decide +kernel
theorem dX8_save_31 : decode cX8_save 31 = .ok (.laload, 1) := by decide +kernel
theorem dX8_save_32 : decode cX8_save 32 = .ok (.lastore, 1) := by decide +kernel
theorem dX8_save_33 : decode cX8_save 33 = .ok (.iinc 1 1, 3) := by decide +kernel
theorem dX8_save_36 : decode cX8_save 36 = .ok (.goto (-26), 3) := by decide +kernel
theorem dX8_save_39 : decode cX8_save 39 = .ok (.aload_n 0, 1) := by decide +kernel
theorem dX8_save_40 : decode cX8_save 40 = .ok (.dup, 1) := by decide +kernel
theorem dX8_save_41 : decode cX8_save 41 = .ok (.getfield 58, 3) := by decide +kernel
theorem dX8_save_44 : decode cX8_save 44 = .ok (.iconst 1, 1) := by decide +kernel
theorem dX8_save_45 : decode cX8_save 45 = .ok (.isub, 1) := by decide +kernel
theorem dX8_save_46 : decode cX8_save 46 = .ok (.putfield 58, 3) := by decide +kernel
theorem dX8_save_49 : decode cX8_save 49 = .ok (.iconst 0, 1) := by decide +kernel
theorem dX8_save_50 : decode cX8_save 50 = .ok (.istore_n 1, 1) := by decide +kernel
theorem dX8_save_51 : decode cX8_save 51 = .ok (.iload_n 1, 1) := by decide +kernel
theorem dX8_save_52 : decode cX8_save 52 = .ok (.sipush 513, 3) := by decide +kernel
theorem dX8_save_55 : decode cX8_save 55 = .ok (.if_icmp .ge 30, 3) := by decide +kernel
theorem dX8_save_58 : decode cX8_save 58 = .ok (.aload_n 0, 1) := by decide +kernel
theorem dX8_save_59 : decode cX8_save 59 = .ok (.getfield 13, 3) := by decide +kernel
theorem dX8_save_62 : decode cX8_save 62 = .ok (.sipush 513, 3) := by decide +kernel
theorem dX8_save_65 : decode cX8_save 65 = .ok (.aload_n 0, 1) := by decide +kernel
theorem dX8_save_66 : decode cX8_save 66 = .ok (.getfield 58, 3) := by decide +kernel
theorem dX8_save_69 : decode cX8_save 69 = .ok (.imul, 1) := by decide +kernel
theorem dX8_save_70 : decode cX8_save 70 = .ok (.iload_n 1, 1) := by decide +kernel
theorem dX8_save_71 : decode cX8_save 71 = .ok (.iadd, 1) := by decide +kernel
theorem dX8_save_72 : decode cX8_save 72 = .ok (.aload_n 0, 1) := by decide +kernel
theorem dX8_save_73 : decode cX8_save 73 = .ok (.getfield 7, 3) := by decide +kernel
theorem dX8_save_76 : decode cX8_save 76 = .ok (.iload_n 1, 1) := by decide +kernel
theorem dX8_save_77 : decode cX8_save 77 = .ok (.laload, 1) := by decide +kernel
theorem dX8_save_78 : decode cX8_save 78 = .ok (.lastore, 1) := by decide +kernel
theorem dX8_save_79 : decode cX8_save 79 = .ok (.iinc 1 1, 3) := by decide +kernel
theorem dX8_save_82 : decode cX8_save 82 = .ok (.goto (-31), 3) := by decide +kernel
theorem dX8_save_85 : decode cX8_save 85 = .ok (.aload_n 0, 1) := by decide +kernel
theorem dX8_save_86 : decode cX8_save 86 = .ok (.dup, 1) := by decide +kernel
theorem dX8_save_87 : decode cX8_save 87 = .ok (.getfield 58, 3) := by decide +kernel
theorem dX8_save_90 : decode cX8_save 90 = .ok (.iconst 1, 1) := by decide +kernel
theorem dX8_save_91 : decode cX8_save 91 = .ok (.iadd, 1) := by decide +kernel
theorem dX8_save_92 : decode cX8_save 92 = .ok (.putfield 58, 3) := by decide +kernel
theorem dX8_save_95 : decode cX8_save 95 = .ok (.return_, 1) := by decide +kernel
theorem dX8_lays_0 : decode cX8_lays 0 = .ok (.iconst 0, 1) := by decide +kernel
theorem dX8_lays_1 : decode cX8_lays 1 = .ok (.istore_n 1, 1) := by decide +kernel
theorem dX8_lays_2 : decode cX8_lays 2 = .ok (.iload_n 1, 1) := by decide +kernel
theorem dX8_lays_3 : decode cX8_lays 3 = .ok (.sipush 513, 3) := by decide +kernel
theorem dX8_lays_6 : decode cX8_lays 6 = .ok (.if_icmp .ge 21, 3) := by decide +kernel
theorem dX8_lays_9 : decode cX8_lays 9 = .ok (.aload_n 0, 1) := by decide +kernel
theorem dX8_lays_10 : decode cX8_lays 10 = .ok (.getfield 16, 3) := by decide +kernel
theorem dX8_lays_13 : decode cX8_lays 13 = .ok (.iload_n 1, 1) := by decide +kernel
theorem dX8_lays_14 : decode cX8_lays 14 = .ok (.aload_n 0, 1) := by decide +kernel
theorem dX8_lays_15 : decode cX8_lays 15 = .ok (.getfield 7, 3) := by decide +kernel
theorem dX8_lays_18 : decode cX8_lays 18 = .ok (.iload_n 1, 1) := by decide +kernel
theorem dX8_lays_19 : decode cX8_lays 19 = .ok (.laload, 1) := by decide +kernel
theorem dX8_lays_20 : decode cX8_lays 20 = .ok (.lastore, 1) := by decide +kernel
theorem dX8_lays_21 : decode cX8_lays 21 = .ok (.iinc 1 1, 3) := by decide +kernel
theorem dX8_lays_24 : decode cX8_lays 24 = .ok (.goto (-22), 3) := by decide +kernel
theorem dX8_lays_27 : decode cX8_lays 27 = .ok (.return_, 1) := by decide +kernel
theorem dX8_takesBack_0 : decode cX8_takesBack 0 = .ok (.iconst 0, 1) := by decide +kernel
theorem dX8_takesBack_1 : decode cX8_takesBack 1 = .ok (.istore_n 1, 1) := by decide +kernel
theorem dX8_takesBack_2 : decode cX8_takesBack 2 = .ok (.iload_n 1, 1) := by decide +kernel
theorem dX8_takesBack_3 : decode cX8_takesBack 3 = .ok (.sipush 513, 3) := by decide +kernel
theorem dX8_takesBack_6 : decode cX8_takesBack 6 = .ok (.if_icmp .ge 21, 3) := by decide +kernel
theorem dX8_takesBack_9 : decode cX8_takesBack 9 = .ok (.aload_n 0, 1) := by decide +kernel
theorem dX8_takesBack_10 : decode cX8_takesBack 10 = .ok (.getfield 7, 3) := by decide +kernel
theorem dX8_takesBack_13 : decode cX8_takesBack 13 = .ok (.iload_n 1, 1) := by decide +kernel
theorem dX8_takesBack_14 : decode cX8_takesBack 14 = .ok (.aload_n 0, 1) := by decide +kernel
theorem dX8_takesBack_15 : decode cX8_takesBack 15 = .ok (.getfield 16, 3) := by decide +kernel
theorem dX8_takesBack_18 : decode cX8_takesBack 18 = .ok (.iload_n 1, 1) := by decide +kernel
theorem dX8_takesBack_19 : decode cX8_takesBack 19 = .ok (.laload, 1) := by decide +kernel
theorem dX8_takesBack_20 : decode cX8_takesBack 20 = .ok (.lastore, 1) := by decide +kernel
theorem dX8_takesBack_21 : decode cX8_takesBack 21 = .ok (.iinc 1 1, 3) := by decide +kernel
theorem dX8_takesBack_24 : decode cX8_takesBack 24 = .ok (.goto (-22), 3) := by decide +kernel
theorem dX8_takesBack_27 : decode cX8_takesBack 27 = .ok (.return_, 1) := by decide +kernel
theorem dX8_many_0 : decode cX8_many 0 = .ok (.aload_n 0, 1) := by decide +kernel
theorem dX8_many_1 : decode cX8_many 1 = .ok (.getfield 7, 3) := by decide +kernel
theorem dX8_many_4 : decode cX8_many 4 = .ok (.iconst 0, 1) := by decide +kernel
theorem dX8_many_5 : decode cX8_many 5 = .ok (.laload, 1) := by decide +kernel
theorem dX8_many_6 : decode cX8_many 6 = .ok (.aload_n 0, 1) := by decide +kernel
theorem dX8_many_7 : decode cX8_many 7 = .ok (.getfield 7, 3) := by decide +kernel
theorem dX8_many_10 : decode cX8_many 10 = .ok (.iconst 1, 1) := by decide +kernel
theorem dX8_many_11 : decode cX8_many 11 = .ok (.laload, 1) := by decide +kernel
theorem dX8_many_12 : decode cX8_many 12 = .ok (.lmul, 1) := by decide +kernel
theorem dX8_many_13 : decode cX8_many 13 = .ok (.l2i, 1) := by decide +kernel
theorem dX8_many_14 : decode cX8_many 14 = .ok (.ireturn, 1) := by decide +kernel
theorem dX8_isCell_0 : decode cX8_isCell 0 = .ok (.iload_n 1, 1) := by decide +kernel
theorem dX8_isCell_1 : decode cX8_isCell 1 = .ok (.i2l, 1) := by decide +kernel
theorem dX8_isCell_2 : decode cX8_isCell 2 = .ok (.lconst 0, 1) := by decide +kernel
theorem dX8_isCell_3 : decode cX8_isCell 3 = .ok (.aload_n 0, 1) := by decide +kernel
theorem dX8_isCell_4 : decode cX8_isCell 4 = .ok (.invokevirtual 61, 3) := by decide +kernel
theorem dX8_isCell_7 : decode cX8_isCell 7 = .ok (.i2l, 1) := by decide +kernel
theorem dX8_isCell_8 : decode cX8_isCell 8 = .ok (.lconst 1, 1) := by decide +kernel
theorem dX8_isCell_9 : decode cX8_isCell 9 = .ok (.lsub, 1) := by decide +kernel
theorem dX8_isCell_10 : decode cX8_isCell 10 = .ok (.invokestatic 65, 3) := by decide +kernel
theorem dX8_isCell_13 : decode cX8_isCell 13 = .ok (.ireturn, 1) := by decide +kernel
theorem dX8_height_0 : decode cX8_height 0 = .ok (.aload_n 0, 1) := by decide +kernel
theorem dX8_height_1 : decode cX8_height 1 = .ok (.getfield 7, 3) := by decide +kernel
theorem dX8_height_4 : decode cX8_height 4 = .ok (.bipush 8, 2) := by decide +kernel
theorem dX8_height_6 : decode cX8_height 6 = .ok (.iload_n 1, 1) := by decide +kernel
theorem dX8_height_7 : decode cX8_height 7 = .ok (.iadd, 1) := by decide +kernel
theorem dX8_height_8 : decode cX8_height 8 = .ok (.laload, 1) := by decide +kernel
theorem dX8_height_9 : decode cX8_height 9 = .ok (.l2i, 1) := by decide +kernel
theorem dX8_height_10 : decode cX8_height 10 = .ok (.ireturn, 1) := by decide +kernel
theorem dX8_neighbor_0 : decode cX8_neighbor 0 = .ok (.aload_n 0, 1) := by decide +kernel
theorem dX8_neighbor_1 : decode cX8_neighbor 1 = .ok (.getfield 7, 3) := by decide +kernel
theorem dX8_neighbor_4 : decode cX8_neighbor 4 = .ok (.iconst 0, 1) := by decide +kernel
theorem dX8_neighbor_5 : decode cX8_neighbor 5 = .ok (.laload, 1) := by decide +kernel
theorem dX8_neighbor_6 : decode cX8_neighbor 6 = .ok (.l2i, 1) := by decide +kernel
theorem dX8_neighbor_7 : decode cX8_neighbor 7 = .ok (.istore_n 3, 1) := by decide +kernel
theorem dX8_neighbor_8 : decode cX8_neighbor 8 = .ok (.iload_n 2, 1) := by decide +kernel
theorem dX8_neighbor_9 : decode cX8_neighbor 9 = .ok (.tableswitch 71 0 2 #[27, 40, 54], 27) := by decide +kernel
theorem dX8_neighbor_36 : decode cX8_neighbor 36 = .ok (.iload_n 1, 1) := by decide +kernel
theorem dX8_neighbor_37 : decode cX8_neighbor 37 = .ok (.iload_n 3, 1) := by decide +kernel
theorem dX8_neighbor_38 : decode cX8_neighbor 38 = .ok (.if_icmp .lt 9, 3) := by decide +kernel
theorem dX8_neighbor_41 : decode cX8_neighbor 41 = .ok (.iload_n 1, 1) := by decide +kernel
theorem dX8_neighbor_42 : decode cX8_neighbor 42 = .ok (.iload_n 3, 1) := by decide +kernel
theorem dX8_neighbor_43 : decode cX8_neighbor 43 = .ok (.isub, 1) := by decide +kernel
theorem dX8_neighbor_44 : decode cX8_neighbor 44 = .ok (.goto 4, 3) := by decide +kernel
theorem dX8_neighbor_47 : decode cX8_neighbor 47 = .ok (.iconst (-1), 1) := by decide +kernel
theorem dX8_neighbor_48 : decode cX8_neighbor 48 = .ok (.ireturn, 1) := by decide +kernel
theorem dX8_neighbor_49 : decode cX8_neighbor 49 = .ok (.iload_n 1, 1) := by decide +kernel
theorem dX8_neighbor_50 : decode cX8_neighbor 50 = .ok (.iload_n 3, 1) := by decide +kernel
theorem dX8_neighbor_51 : decode cX8_neighbor 51 = .ok (.irem, 1) := by decide +kernel
theorem dX8_neighbor_52 : decode cX8_neighbor 52 = .ok (.ifCond .le 9, 3) := by decide +kernel
theorem dX8_neighbor_55 : decode cX8_neighbor 55 = .ok (.iload_n 1, 1) := by decide +kernel
theorem dX8_neighbor_56 : decode cX8_neighbor 56 = .ok (.iconst 1, 1) := by decide +kernel
theorem dX8_neighbor_57 : decode cX8_neighbor 57 = .ok (.isub, 1) := by decide +kernel
theorem dX8_neighbor_58 : decode cX8_neighbor 58 = .ok (.goto 4, 3) := by decide +kernel
theorem dX8_neighbor_61 : decode cX8_neighbor 61 = .ok (.iconst (-1), 1) := by decide +kernel
theorem dX8_neighbor_62 : decode cX8_neighbor 62 = .ok (.ireturn, 1) := by decide +kernel
theorem dX8_neighbor_63 : decode cX8_neighbor 63 = .ok (.iload_n 1, 1) := by decide +kernel
theorem dX8_neighbor_64 : decode cX8_neighbor 64 = .ok (.iload_n 3, 1) := by decide +kernel
theorem dX8_neighbor_65 : decode cX8_neighbor 65 = .ok (.irem, 1) := by decide +kernel
theorem dX8_neighbor_66 : decode cX8_neighbor 66 = .ok (.iload_n 3, 1) := by decide +kernel
theorem dX8_neighbor_67 : decode cX8_neighbor 67 = .ok (.iconst 1, 1) := by decide +kernel
theorem dX8_neighbor_68 : decode cX8_neighbor 68 = .ok (.isub, 1) := by decide +kernel
theorem dX8_neighbor_69 : decode cX8_neighbor 69 = .ok (.if_icmp .ge 9, 3) := by decide +kernel
theorem dX8_neighbor_72 : decode cX8_neighbor 72 = .ok (.iload_n 1, 1) := by decide +kernel
theorem dX8_neighbor_73 : decode cX8_neighbor 73 = .ok (.iconst 1, 1) := by decide +kernel
theorem dX8_neighbor_74 : decode cX8_neighbor 74 = .ok (.iadd, 1) := by decide +kernel
theorem dX8_neighbor_75 : decode cX8_neighbor 75 = .ok (.goto 4, 3) := by decide +kernel
theorem dX8_neighbor_78 : decode cX8_neighbor 78 = .ok (.iconst (-1), 1) := by decide +kernel
theorem dX8_neighbor_79 : decode cX8_neighbor 79 = .ok (.ireturn, 1) := by decide +kernel
theorem dX8_neighbor_80 : decode cX8_neighbor 80 = .ok (.iload_n 1, 1) := by decide +kernel
theorem dX8_neighbor_81 : decode cX8_neighbor 81 = .ok (.iload_n 3, 1) := by decide +kernel
theorem dX8_neighbor_82 : decode cX8_neighbor 82 = .ok (.iadd, 1) := by decide +kernel
theorem dX8_neighbor_83 : decode cX8_neighbor 83 = .ok (.aload_n 0, 1) := by decide +kernel
theorem dX8_neighbor_84 : decode cX8_neighbor 84 = .ok (.invokevirtual 61, 3) := by decide +kernel
theorem dX8_neighbor_87 : decode cX8_neighbor 87 = .ok (.if_icmp .ge 9, 3) := by decide +kernel
theorem dX8_neighbor_90 : decode cX8_neighbor 90 = .ok (.iload_n 1, 1) := by decide +kernel
theorem dX8_neighbor_91 : decode cX8_neighbor 91 = .ok (.iload_n 3, 1) := by decide +kernel
theorem dX8_neighbor_92 : decode cX8_neighbor 92 = .ok (.iadd, 1) := by decide +kernel
theorem dX8_neighbor_93 : decode cX8_neighbor 93 = .ok (.goto 4, 3) := by decide +kernel
theorem dX8_neighbor_96 : decode cX8_neighbor 96 = .ok (.iconst (-1), 1) := by decide +kernel
theorem dX8_neighbor_97 : decode cX8_neighbor 97 = .ok (.ireturn, 1) := by decide +kernel
theorem dX8_areNeighbors_0 : decode cX8_areNeighbors 0 = .ok (.iconst 0, 1) := by decide +kernel
theorem dX8_areNeighbors_1 : decode cX8_areNeighbors 1 = .ok (.istore_n 3, 1) := by decide +kernel
theorem dX8_areNeighbors_2 : decode cX8_areNeighbors 2 = .ok (.iconst 0, 1) := by decide +kernel
theorem dX8_areNeighbors_3 : decode cX8_areNeighbors 3 = .ok (.istore 4, 2) := by decide +kernel
theorem dX8_areNeighbors_5 : decode cX8_areNeighbors 5 = .ok (.iload 4, 2) := by decide +kernel
theorem dX8_areNeighbors_7 : decode cX8_areNeighbors 7 = .ok (.iconst 4, 1) := by decide +kernel
theorem dX8_areNeighbors_8 : decode cX8_areNeighbors 8 = .ok (.if_icmp .ge 30, 3) := by decide +kernel
theorem dX8_areNeighbors_11 : decode cX8_areNeighbors 11 = .ok (.iload_n 3, 1) := by decide +kernel
theorem dX8_areNeighbors_12 : decode cX8_areNeighbors 12 = .ok (.ifCond .ne 14, 3) := by decide +kernel
theorem dX8_areNeighbors_15 : decode cX8_areNeighbors 15 = .ok (.aload_n 0, 1) := by decide +kernel
theorem dX8_areNeighbors_16 : decode cX8_areNeighbors 16 = .ok (.iload_n 1, 1) := by decide +kernel
theorem dX8_areNeighbors_17 : decode cX8_areNeighbors 17 = .ok (.iload 4, 2) := by decide +kernel
theorem dX8_areNeighbors_19 : decode cX8_areNeighbors 19 = .ok (.invokevirtual 69, 3) := by decide +kernel
theorem dX8_areNeighbors_22 : decode cX8_areNeighbors 22 = .ok (.iload_n 2, 1) := by decide +kernel
theorem dX8_areNeighbors_23 : decode cX8_areNeighbors 23 = .ok (.if_icmp .ne 7, 3) := by decide +kernel
theorem dX8_areNeighbors_26 : decode cX8_areNeighbors 26 = .ok (.iconst 1, 1) := by decide +kernel
theorem dX8_areNeighbors_27 : decode cX8_areNeighbors 27 = .ok (.goto 4, 3) := by decide +kernel
theorem dX8_areNeighbors_30 : decode cX8_areNeighbors 30 = .ok (.iconst 0, 1) := by decide +kernel
theorem dX8_areNeighbors_31 : decode cX8_areNeighbors 31 = .ok (.istore_n 3, 1) := by decide +kernel
theorem dX8_areNeighbors_32 : decode cX8_areNeighbors 32 = .ok (.iinc 4 1, 3) := by decide +kernel
theorem dX8_areNeighbors_35 : decode cX8_areNeighbors 35 = .ok (.goto (-30), 3) := by decide +kernel
theorem dX8_areNeighbors_38 : decode cX8_areNeighbors 38 = .ok (.iload_n 3, 1) := by decide +kernel
theorem dX8_areNeighbors_39 : decode cX8_areNeighbors 39 = .ok (.ireturn, 1) := by decide +kernel
theorem dX8_isPair_0 : decode cX8_isPair 0 = .ok (.aload_n 0, 1) := by decide +kernel
theorem dX8_isPair_1 : decode cX8_isPair 1 = .ok (.iload_n 1, 1) := by decide +kernel
theorem dX8_isPair_2 : decode cX8_isPair 2 = .ok (.invokevirtual 73, 3) := by decide +kernel
theorem dX8_isPair_5 : decode cX8_isPair 5 = .ok (.ifCond .eq 24, 3) := by decide +kernel
theorem dX8_isPair_8 : decode cX8_isPair 8 = .ok (.aload_n 0, 1) := by decide +kernel
theorem dX8_isPair_9 : decode cX8_isPair 9 = .ok (.iload_n 2, 1) := by decide +kernel
theorem dX8_isPair_10 : decode cX8_isPair 10 = .ok (.invokevirtual 73, 3) := by decide +kernel
theorem dX8_isPair_13 : decode cX8_isPair 13 = .ok (.ifCond .eq 16, 3) := by decide +kernel
theorem dX8_isPair_16 : decode cX8_isPair 16 = .ok (.aload_n 0, 1) := by decide +kernel
theorem dX8_isPair_17 : decode cX8_isPair 17 = .ok (.iload_n 1, 1) := by decide +kernel
theorem dX8_isPair_18 : decode cX8_isPair 18 = .ok (.iload_n 2, 1) := by decide +kernel
theorem dX8_isPair_19 : decode cX8_isPair 19 = .ok (.invokevirtual 77, 3) := by decide +kernel
theorem dX8_isPair_22 : decode cX8_isPair 22 = .ok (.ifCond .eq 7, 3) := by decide +kernel
theorem dX8_isPair_25 : decode cX8_isPair 25 = .ok (.iconst 1, 1) := by decide +kernel
theorem dX8_isPair_26 : decode cX8_isPair 26 = .ok (.goto 4, 3) := by decide +kernel
theorem dX8_isPair_29 : decode cX8_isPair 29 = .ok (.iconst 0, 1) := by decide +kernel
theorem dX8_isPair_30 : decode cX8_isPair 30 = .ok (.ireturn, 1) := by decide +kernel
theorem dX8_gateAt_0 : decode cX8_gateAt 0 = .ok (.iload_n 1, 1) := by decide +kernel
theorem dX8_gateAt_1 : decode cX8_gateAt 1 = .ok (.iload_n 2, 1) := by decide +kernel
theorem dX8_gateAt_2 : decode cX8_gateAt 2 = .ok (.if_icmp .ge 7, 3) := by decide +kernel
theorem dX8_gateAt_5 : decode cX8_gateAt 5 = .ok (.iload_n 1, 1) := by decide +kernel
theorem dX8_gateAt_6 : decode cX8_gateAt 6 = .ok (.goto 4, 3) := by decide +kernel
theorem dX8_gateAt_9 : decode cX8_gateAt 9 = .ok (.iload_n 2, 1) := by decide +kernel
theorem dX8_gateAt_10 : decode cX8_gateAt 10 = .ok (.istore_n 3, 1) := by decide +kernel
theorem dX8_gateAt_11 : decode cX8_gateAt 11 = .ok (.iload_n 1, 1) := by decide +kernel
theorem dX8_gateAt_12 : decode cX8_gateAt 12 = .ok (.iload_n 2, 1) := by decide +kernel
theorem dX8_gateAt_13 : decode cX8_gateAt 13 = .ok (.if_icmp .ge 7, 3) := by decide +kernel
theorem dX8_gateAt_16 : decode cX8_gateAt 16 = .ok (.iload_n 2, 1) := by decide +kernel
theorem dX8_gateAt_17 : decode cX8_gateAt 17 = .ok (.goto 4, 3) := by decide +kernel
theorem dX8_gateAt_20 : decode cX8_gateAt 20 = .ok (.iload_n 1, 1) := by decide +kernel
theorem dX8_gateAt_21 : decode cX8_gateAt 21 = .ok (.istore 4, 2) := by decide +kernel
theorem dX8_gateAt_23 : decode cX8_gateAt 23 = .ok (.iload 4, 2) := by decide +kernel
theorem dX8_gateAt_25 : decode cX8_gateAt 25 = .ok (.aload_n 0, 1) := by decide +kernel
theorem dX8_gateAt_26 : decode cX8_gateAt 26 = .ok (.iload_n 3, 1) := by decide +kernel
theorem dX8_gateAt_27 : decode cX8_gateAt 27 = .ok (.iconst 2, 1) := by decide +kernel
theorem dX8_gateAt_28 : decode cX8_gateAt 28 = .ok (.invokevirtual 69, 3) := by decide +kernel
theorem dX8_gateAt_31 : decode cX8_gateAt 31 = .ok (.if_icmp .ne 10, 3) := by decide +kernel
theorem dX8_gateAt_34 : decode cX8_gateAt 34 = .ok (.bipush 44, 2) := by decide +kernel
theorem dX8_gateAt_36 : decode cX8_gateAt 36 = .ok (.iload_n 3, 1) := by decide +kernel
theorem dX8_gateAt_37 : decode cX8_gateAt 37 = .ok (.iadd, 1) := by decide +kernel
theorem dX8_gateAt_38 : decode cX8_gateAt 38 = .ok (.goto 7, 3) := by decide +kernel
theorem dX8_gateAt_41 : decode cX8_gateAt 41 = .ok (.bipush 80, 2) := by decide +kernel
theorem dX8_gateAt_43 : decode cX8_gateAt 43 = .ok (.iload_n 3, 1) := by decide +kernel
theorem dX8_gateAt_44 : decode cX8_gateAt 44 = .ok (.iadd, 1) := by decide +kernel
theorem dX8_gateAt_45 : decode cX8_gateAt 45 = .ok (.ireturn, 1) := by decide +kernel
theorem dX8_threshold_0 : decode cX8_threshold 0 = .ok (.aload_n 0, 1) := by decide +kernel
theorem dX8_threshold_1 : decode cX8_threshold 1 = .ok (.getfield 7, 3) := by decide +kernel
theorem dX8_threshold_4 : decode cX8_threshold 4 = .ok (.bipush 8, 2) := by decide +kernel
theorem dX8_threshold_6 : decode cX8_threshold 6 = .ok (.iload_n 1, 1) := by decide +kernel
theorem dX8_threshold_7 : decode cX8_threshold 7 = .ok (.iadd, 1) := by decide +kernel
theorem dX8_threshold_8 : decode cX8_threshold 8 = .ok (.laload, 1) := by decide +kernel
theorem dX8_threshold_9 : decode cX8_threshold 9 = .ok (.aload_n 0, 1) := by decide +kernel
theorem dX8_threshold_10 : decode cX8_threshold 10 = .ok (.getfield 7, 3) := by decide +kernel
theorem dX8_threshold_13 : decode cX8_threshold 13 = .ok (.bipush 8, 2) := by decide +kernel
theorem dX8_threshold_15 : decode cX8_threshold 15 = .ok (.iload_n 2, 1) := by decide +kernel
theorem dX8_threshold_16 : decode cX8_threshold 16 = .ok (.iadd, 1) := by decide +kernel
theorem dX8_threshold_17 : decode cX8_threshold 17 = .ok (.laload, 1) := by decide +kernel
theorem dX8_threshold_18 : decode cX8_threshold 18 = .ok (.lcmp, 1) := by decide +kernel
theorem dX8_threshold_19 : decode cX8_threshold 19 = .ok (.ifCond .le 15, 3) := by decide +kernel
theorem dX8_threshold_22 : decode cX8_threshold 22 = .ok (.aload_n 0, 1) := by decide +kernel
theorem dX8_threshold_23 : decode cX8_threshold 23 = .ok (.getfield 7, 3) := by decide +kernel
theorem dX8_threshold_26 : decode cX8_threshold 26 = .ok (.bipush 8, 2) := by decide +kernel
theorem dX8_threshold_28 : decode cX8_threshold 28 = .ok (.iload_n 1, 1) := by decide +kernel
theorem dX8_threshold_29 : decode cX8_threshold 29 = .ok (.iadd, 1) := by decide +kernel
theorem dX8_threshold_30 : decode cX8_threshold 30 = .ok (.laload, 1) := by decide +kernel
theorem dX8_threshold_31 : decode cX8_threshold 31 = .ok (.goto 12, 3) := by decide +kernel
theorem dX8_threshold_34 : decode cX8_threshold 34 = .ok (.aload_n 0, 1) := by decide +kernel
theorem dX8_threshold_35 : decode cX8_threshold 35 = .ok (.getfield 7, 3) := by decide +kernel
theorem dX8_threshold_38 : decode cX8_threshold 38 = .ok (.bipush 8, 2) := by decide +kernel
theorem dX8_threshold_40 : decode cX8_threshold 40 = .ok (.iload_n 2, 1) := by decide +kernel
theorem dX8_threshold_41 : decode cX8_threshold 41 = .ok (.iadd, 1) := by decide +kernel
theorem dX8_threshold_42 : decode cX8_threshold 42 = .ok (.laload, 1) := by decide +kernel
theorem dX8_threshold_43 : decode cX8_threshold 43 = .ok (.lstore_n 3, 1) := by decide +kernel
theorem dX8_threshold_44 : decode cX8_threshold 44 = .ok (.aload_n 0, 1) := by decide +kernel
theorem dX8_threshold_45 : decode cX8_threshold 45 = .ok (.getfield 7, 3) := by decide +kernel
theorem dX8_threshold_48 : decode cX8_threshold 48 = .ok (.aload_n 0, 1) := by decide +kernel
theorem dX8_threshold_49 : decode cX8_threshold 49 = .ok (.iload_n 1, 1) := by decide +kernel
theorem dX8_threshold_50 : decode cX8_threshold 50 = .ok (.iload_n 2, 1) := by decide +kernel
theorem dX8_threshold_51 : decode cX8_threshold 51 = .ok (.invokevirtual 81, 3) := by decide +kernel
theorem dX8_threshold_54 : decode cX8_threshold 54 = .ok (.laload, 1) := by decide +kernel
theorem dX8_threshold_55 : decode cX8_threshold 55 = .ok (.lstore 5, 2) := by decide +kernel
theorem dX8_threshold_57 : decode cX8_threshold 57 = .ok (.lload 5, 2) := by decide +kernel
theorem dX8_threshold_59 : decode cX8_threshold 59 = .ok (.lload_n 3, 1) := by decide +kernel
theorem dX8_threshold_60 : decode cX8_threshold 60 = .ok (.lcmp, 1) := by decide +kernel
theorem dX8_threshold_61 : decode cX8_threshold 61 = .ok (.ifCond .le 8, 3) := by decide +kernel
theorem dX8_threshold_64 : decode cX8_threshold 64 = .ok (.lload 5, 2) := by decide +kernel
theorem dX8_threshold_66 : decode cX8_threshold 66 = .ok (.goto 4, 3) := by decide +kernel
theorem dX8_threshold_69 : decode cX8_threshold 69 = .ok (.lload_n 3, 1) := by decide +kernel
theorem dX8_threshold_70 : decode cX8_threshold 70 = .ok (.l2i, 1) := by decide +kernel
theorem dX8_threshold_71 : decode cX8_threshold 71 = .ok (.ireturn, 1) := by decide +kernel
theorem dX8_runs_0 : decode cX8_runs 0 = .ok (.aload_n 0, 1) := by decide +kernel
theorem dX8_runs_1 : decode cX8_runs 1 = .ok (.iload_n 1, 1) := by decide +kernel
theorem dX8_runs_2 : decode cX8_runs 2 = .ok (.iload_n 2, 1) := by decide +kernel
theorem dX8_runs_3 : decode cX8_runs 3 = .ok (.invokevirtual 84, 3) := by decide +kernel
theorem dX8_runs_6 : decode cX8_runs 6 = .ok (.aload_n 0, 1) := by decide +kernel
theorem dX8_runs_7 : decode cX8_runs 7 = .ok (.iload_n 1, 1) := by decide +kernel
theorem dX8_runs_8 : decode cX8_runs 8 = .ok (.invokevirtual 87, 3) := by decide +kernel
theorem dX8_runs_11 : decode cX8_runs 11 = .ok (.if_icmp .ne 7, 3) := by decide +kernel
theorem dX8_runs_14 : decode cX8_runs 14 = .ok (.iconst 1, 1) := by decide +kernel
theorem dX8_runs_15 : decode cX8_runs 15 = .ok (.goto 4, 3) := by decide +kernel
theorem dX8_runs_18 : decode cX8_runs 18 = .ok (.iconst 0, 1) := by decide +kernel
theorem dX8_runs_19 : decode cX8_runs 19 = .ok (.ireturn, 1) := by decide +kernel
theorem dX8_has_0 : decode cX8_has 0 = .ok (.lload_n 0, 1) := by decide +kernel
theorem dX8_has_1 : decode cX8_has 1 = .ok (.iload_n 2, 1) := by decide +kernel
theorem dX8_has_2 : decode cX8_has 2 = .ok (.lshr, 1) := by decide +kernel
theorem dX8_has_3 : decode cX8_has 3 = .ok (.lconst 1, 1) := by decide +kernel
theorem dX8_has_4 : decode cX8_has 4 = .ok (.land, 1) := by decide +kernel
theorem dX8_has_5 : decode cX8_has 5 = .ok (.lconst 1, 1) := by decide +kernel
theorem dX8_has_6 : decode cX8_has 6 = .ok (.lcmp, 1) := by decide +kernel
theorem dX8_has_7 : decode cX8_has 7 = .ok (.ifCond .ne 7, 3) := by decide +kernel
theorem dX8_has_10 : decode cX8_has 10 = .ok (.iconst 1, 1) := by decide +kernel
theorem dX8_has_11 : decode cX8_has 11 = .ok (.goto 4, 3) := by decide +kernel
theorem dX8_has_14 : decode cX8_has 14 = .ok (.iconst 0, 1) := by decide +kernel
theorem dX8_has_15 : decode cX8_has 15 = .ok (.ireturn, 1) := by decide +kernel
theorem dX8_plain_0 : decode cX8_plain 0 = .ok (.lconst 1, 1) := by decide +kernel
theorem dX8_plain_1 : decode cX8_plain 1 = .ok (.iload_n 1, 1) := by decide +kernel
theorem dX8_plain_2 : decode cX8_plain 2 = .ok (.lshl, 1) := by decide +kernel
theorem dX8_plain_3 : decode cX8_plain 3 = .ok (.lstore_n 2, 1) := by decide +kernel
theorem dX8_plain_4 : decode cX8_plain 4 = .ok (.iconst 1, 1) := by decide +kernel
theorem dX8_plain_5 : decode cX8_plain 5 = .ok (.istore 4, 2) := by decide +kernel
theorem dX8_plain_7 : decode cX8_plain 7 = .ok (.iload 4, 2) := by decide +kernel
theorem dX8_plain_9 : decode cX8_plain 9 = .ok (.ifCond .eq 111, 3) := by decide +kernel
theorem dX8_plain_12 : decode cX8_plain 12 = .ok (.iconst 0, 1) := by decide +kernel
theorem dX8_plain_13 : decode cX8_plain 13 = .ok (.istore 4, 2) := by decide +kernel
theorem dX8_plain_15 : decode cX8_plain 15 = .ok (.iconst 0, 1) := by decide +kernel
theorem dX8_plain_16 : decode cX8_plain 16 = .ok (.istore 5, 2) := by decide +kernel
theorem dX8_plain_18 : decode cX8_plain 18 = .ok (.iload 5, 2) := by decide +kernel
theorem dX8_plain_20 : decode cX8_plain 20 = .ok (.aload_n 0, 1) := by decide +kernel
theorem dX8_plain_21 : decode cX8_plain 21 = .ok (.invokevirtual 61, 3) := by decide +kernel
theorem dX8_plain_24 : decode cX8_plain 24 = .ok (.if_icmp .ge 93, 3) := by decide +kernel
theorem dX8_plain_27 : decode cX8_plain 27 = .ok (.iconst 0, 1) := by decide +kernel
theorem dX8_plain_28 : decode cX8_plain 28 = .ok (.istore 6, 2) := by decide +kernel
theorem dX8_plain_30 : decode cX8_plain 30 = .ok (.iload 6, 2) := by decide +kernel
theorem dX8_plain_32 : decode cX8_plain 32 = .ok (.iconst 4, 1) := by decide +kernel
theorem dX8_plain_33 : decode cX8_plain 33 = .ok (.if_icmp .ge 78, 3) := by decide +kernel
theorem dX8_plain_36 : decode cX8_plain 36 = .ok (.lload_n 2, 1) := by decide +kernel
theorem dX8_plain_37 : decode cX8_plain 37 = .ok (.iload 5, 2) := by decide +kernel
theorem dX8_plain_39 : decode cX8_plain 39 = .ok (.invokestatic 91, 3) := by decide +kernel
theorem dX8_plain_42 : decode cX8_plain 42 = .ok (.ifCond .eq 69, 3) := by decide +kernel
theorem dX8_plain_45 : decode cX8_plain 45 = .ok (.aload_n 0, 1) := by decide +kernel
theorem dX8_plain_46 : decode cX8_plain 46 = .ok (.iload 5, 2) := by decide +kernel
theorem dX8_plain_48 : decode cX8_plain 48 = .ok (.iload 6, 2) := by decide +kernel
theorem dX8_plain_50 : decode cX8_plain 50 = .ok (.invokevirtual 69, 3) := by decide +kernel
theorem dX8_plain_53 : decode cX8_plain 53 = .ok (.istore 7, 2) := by decide +kernel
theorem dX8_plain_55 : decode cX8_plain 55 = .ok (.iload 7, 2) := by decide +kernel
theorem dX8_plain_57 : decode cX8_plain 57 = .ok (.iconst (-1), 1) := by decide +kernel
theorem dX8_plain_58 : decode cX8_plain 58 = .ok (.if_icmp .eq 47, 3) := by decide +kernel
theorem dX8_plain_61 : decode cX8_plain 61 = .ok (.aload_n 0, 1) := by decide +kernel
theorem dX8_plain_62 : decode cX8_plain 62 = .ok (.iload 7, 2) := by decide +kernel
theorem dX8_plain_64 : decode cX8_plain 64 = .ok (.invokevirtual 87, 3) := by decide +kernel
theorem dX8_plain_67 : decode cX8_plain 67 = .ok (.aload_n 0, 1) := by decide +kernel
theorem dX8_plain_68 : decode cX8_plain 68 = .ok (.iload_n 1, 1) := by decide +kernel
theorem dX8_plain_69 : decode cX8_plain 69 = .ok (.invokevirtual 87, 3) := by decide +kernel
theorem dX8_plain_72 : decode cX8_plain 72 = .ok (.if_icmp .ne 33, 3) := by decide +kernel
theorem dX8_plain_75 : decode cX8_plain 75 = .ok (.aload_n 0, 1) := by decide +kernel
theorem dX8_plain_76 : decode cX8_plain 76 = .ok (.iload 5, 2) := by decide +kernel
theorem dX8_plain_78 : decode cX8_plain 78 = .ok (.iload 7, 2) := by decide +kernel
theorem dX8_plain_80 : decode cX8_plain 80 = .ok (.invokevirtual 95, 3) := by decide +kernel
theorem dX8_plain_83 : decode cX8_plain 83 = .ok (.ifCond .eq 22, 3) := by decide +kernel
theorem dX8_plain_86 : decode cX8_plain 86 = .ok (.lload_n 2, 1) := by decide +kernel
theorem dX8_plain_87 : decode cX8_plain 87 = .ok (.iload 7, 2) := by decide +kernel
theorem dX8_plain_89 : decode cX8_plain 89 = .ok (.invokestatic 91, 3) := by decide +kernel
theorem dX8_plain_92 : decode cX8_plain 92 = .ok (.ifCond .ne 13, 3) := by decide +kernel
theorem dX8_plain_95 : decode cX8_plain 95 = .ok (.lload_n 2, 1) := by decide +kernel
theorem dX8_plain_96 : decode cX8_plain 96 = .ok (.lconst 1, 1) := by decide +kernel
theorem dX8_plain_97 : decode cX8_plain 97 = .ok (.iload 7, 2) := by decide +kernel
theorem dX8_plain_99 : decode cX8_plain 99 = .ok (.lshl, 1) := by decide +kernel
theorem dX8_plain_100 : decode cX8_plain 100 = .ok (.lor, 1) := by decide +kernel
theorem dX8_plain_101 : decode cX8_plain 101 = .ok (.lstore_n 2, 1) := by decide +kernel
theorem dX8_plain_102 : decode cX8_plain 102 = .ok (.iconst 1, 1) := by decide +kernel
theorem dX8_plain_103 : decode cX8_plain 103 = .ok (.istore 4, 2) := by decide +kernel
theorem dX8_plain_105 : decode cX8_plain 105 = .ok (.iinc 6 1, 3) := by decide +kernel
theorem dX8_plain_108 : decode cX8_plain 108 = .ok (.goto (-78), 3) := by decide +kernel
theorem dX8_plain_111 : decode cX8_plain 111 = .ok (.iinc 5 1, 3) := by decide +kernel
theorem dX8_plain_114 : decode cX8_plain 114 = .ok (.goto (-96), 3) := by decide +kernel
theorem dX8_plain_117 : decode cX8_plain 117 = .ok (.goto (-110), 3) := by decide +kernel
theorem dX8_plain_120 : decode cX8_plain 120 = .ok (.lload_n 2, 1) := by decide +kernel
theorem dX8_plain_121 : decode cX8_plain 121 = .ok (.lreturn, 1) := by decide +kernel
theorem dX8_way_0 : decode cX8_way 0 = .ok (.iconst 0, 1) := by decide +kernel
theorem dX8_way_1 : decode cX8_way 1 = .ok (.istore_n 3, 1) := by decide +kernel
theorem dX8_way_2 : decode cX8_way 2 = .ok (.iload_n 3, 1) := by decide +kernel
theorem dX8_way_3 : decode cX8_way 3 = .ok (.aload_n 0, 1) := by decide +kernel
theorem dX8_way_4 : decode cX8_way 4 = .ok (.invokevirtual 61, 3) := by decide +kernel
theorem dX8_way_7 : decode cX8_way 7 = .ok (.if_icmp .ge 108, 3) := by decide +kernel
theorem dX8_way_10 : decode cX8_way 10 = .ok (.iconst (-1), 1) := by decide +kernel
theorem dX8_way_11 : decode cX8_way 11 = .ok (.istore 4, 2) := by decide +kernel
theorem dX8_way_13 : decode cX8_way 13 = .ok (.iconst 0, 1) := by decide +kernel
theorem dX8_way_14 : decode cX8_way 14 = .ok (.istore 5, 2) := by decide +kernel
theorem dX8_way_16 : decode cX8_way 16 = .ok (.iload 5, 2) := by decide +kernel
theorem dX8_way_18 : decode cX8_way 18 = .ok (.iconst 4, 1) := by decide +kernel
theorem dX8_way_19 : decode cX8_way 19 = .ok (.if_icmp .ge 81, 3) := by decide +kernel
theorem dX8_way_22 : decode cX8_way 22 = .ok (.lload_n 1, 1) := by decide +kernel
theorem dX8_way_23 : decode cX8_way 23 = .ok (.iload_n 3, 1) := by decide +kernel
theorem dX8_way_24 : decode cX8_way 24 = .ok (.invokestatic 91, 3) := by decide +kernel
theorem dX8_way_27 : decode cX8_way 27 = .ok (.ifCond .eq 73, 3) := by decide +kernel
theorem dX8_way_30 : decode cX8_way 30 = .ok (.aload_n 0, 1) := by decide +kernel
theorem dX8_way_31 : decode cX8_way 31 = .ok (.iload_n 3, 1) := by decide +kernel
theorem dX8_way_32 : decode cX8_way 32 = .ok (.iload 5, 2) := by decide +kernel
theorem dX8_way_34 : decode cX8_way 34 = .ok (.invokevirtual 69, 3) := by decide +kernel
theorem dX8_way_37 : decode cX8_way 37 = .ok (.istore 6, 2) := by decide +kernel
theorem dX8_way_39 : decode cX8_way 39 = .ok (.iload 6, 2) := by decide +kernel
theorem dX8_way_41 : decode cX8_way 41 = .ok (.iconst (-1), 1) := by decide +kernel
theorem dX8_way_42 : decode cX8_way 42 = .ok (.if_icmp .eq 52, 3) := by decide +kernel
theorem dX8_way_45 : decode cX8_way 45 = .ok (.aload_n 0, 1) := by decide +kernel
theorem dX8_way_46 : decode cX8_way 46 = .ok (.iload 6, 2) := by decide +kernel
theorem dX8_way_48 : decode cX8_way 48 = .ok (.invokevirtual 87, 3) := by decide +kernel
theorem dX8_way_51 : decode cX8_way 51 = .ok (.aload_n 0, 1) := by decide +kernel
theorem dX8_way_52 : decode cX8_way 52 = .ok (.iload_n 3, 1) := by decide +kernel
theorem dX8_way_53 : decode cX8_way 53 = .ok (.invokevirtual 87, 3) := by decide +kernel
theorem dX8_way_56 : decode cX8_way 56 = .ok (.if_icmp .ge 38, 3) := by decide +kernel
theorem dX8_way_59 : decode cX8_way 59 = .ok (.aload_n 0, 1) := by decide +kernel
theorem dX8_way_60 : decode cX8_way 60 = .ok (.iload_n 3, 1) := by decide +kernel
theorem dX8_way_61 : decode cX8_way 61 = .ok (.iload 6, 2) := by decide +kernel
theorem dX8_way_63 : decode cX8_way 63 = .ok (.invokevirtual 95, 3) := by decide +kernel
theorem dX8_way_66 : decode cX8_way 66 = .ok (.ifCond .eq 28, 3) := by decide +kernel
theorem dX8_way_69 : decode cX8_way 69 = .ok (.iload 4, 2) := by decide +kernel
theorem dX8_way_71 : decode cX8_way 71 = .ok (.iconst (-1), 1) := by decide +kernel
theorem dX8_way_72 : decode cX8_way 72 = .ok (.if_icmp .eq 18, 3) := by decide +kernel
theorem dX8_way_75 : decode cX8_way 75 = .ok (.aload_n 0, 1) := by decide +kernel
theorem dX8_way_76 : decode cX8_way 76 = .ok (.iload 6, 2) := by decide +kernel
theorem dX8_way_78 : decode cX8_way 78 = .ok (.invokevirtual 87, 3) := by decide +kernel
theorem dX8_way_81 : decode cX8_way 81 = .ok (.aload_n 0, 1) := by decide +kernel
theorem dX8_way_82 : decode cX8_way 82 = .ok (.iload 4, 2) := by decide +kernel
theorem dX8_way_84 : decode cX8_way 84 = .ok (.invokevirtual 87, 3) := by decide +kernel
theorem dX8_way_87 : decode cX8_way 87 = .ok (.if_icmp .ge 7, 3) := by decide +kernel
theorem dX8_way_90 : decode cX8_way 90 = .ok (.iload 6, 2) := by decide +kernel
theorem dX8_way_92 : decode cX8_way 92 = .ok (.istore 4, 2) := by decide +kernel
theorem dX8_way_94 : decode cX8_way 94 = .ok (.iinc 5 1, 3) := by decide +kernel
theorem dX8_way_97 : decode cX8_way 97 = .ok (.goto (-81), 3) := by decide +kernel
theorem dX8_way_100 : decode cX8_way 100 = .ok (.iload 4, 2) := by decide +kernel
theorem dX8_way_102 : decode cX8_way 102 = .ok (.iconst (-1), 1) := by decide +kernel
theorem dX8_way_103 : decode cX8_way 103 = .ok (.if_icmp .eq 6, 3) := by decide +kernel
theorem dX8_way_106 : decode cX8_way 106 = .ok (.iload 4, 2) := by decide +kernel
theorem dX8_way_108 : decode cX8_way 108 = .ok (.ireturn, 1) := by decide +kernel
theorem dX8_way_109 : decode cX8_way 109 = .ok (.iinc 3 1, 3) := by decide +kernel
theorem dX8_way_112 : decode cX8_way 112 = .ok (.goto (-110), 3) := by decide +kernel
theorem dX8_way_115 : decode cX8_way 115 = .ok (.iconst (-1), 1) := by decide +kernel
theorem dX8_way_116 : decode cX8_way 116 = .ok (.ireturn, 1) := by decide +kernel
theorem dX8_endOf_0 : decode cX8_endOf 0 = .ok (.aload_n 0, 1) := by decide +kernel
theorem dX8_endOf_1 : decode cX8_endOf 1 = .ok (.iload_n 1, 1) := by decide +kernel
theorem dX8_endOf_2 : decode cX8_endOf 2 = .ok (.invokevirtual 98, 3) := by decide +kernel
theorem dX8_endOf_5 : decode cX8_endOf 5 = .ok (.lstore_n 2, 1) := by decide +kernel
theorem dX8_endOf_6 : decode cX8_endOf 6 = .ok (.lload_n 2, 1) := by decide +kernel
theorem dX8_endOf_7 : decode cX8_endOf 7 = .ok (.aload_n 0, 1) := by decide +kernel
theorem dX8_endOf_8 : decode cX8_endOf 8 = .ok (.getfield 7, 3) := by decide +kernel
theorem dX8_endOf_11 : decode cX8_endOf 11 = .ok (.iconst 2, 1) := by decide +kernel
theorem dX8_endOf_12 : decode cX8_endOf 12 = .ok (.laload, 1) := by decide +kernel
theorem dX8_endOf_13 : decode cX8_endOf 13 = .ok (.land, 1) := by decide +kernel
theorem dX8_endOf_14 : decode cX8_endOf 14 = .ok (.lconst 0, 1) := by decide +kernel
theorem dX8_endOf_15 : decode cX8_endOf 15 = .ok (.lcmp, 1) := by decide +kernel
theorem dX8_endOf_16 : decode cX8_endOf 16 = .ok (.ifCond .ne 28, 3) := by decide +kernel
theorem dX8_endOf_19 : decode cX8_endOf 19 = .ok (.aload_n 0, 1) := by decide +kernel
theorem dX8_endOf_20 : decode cX8_endOf 20 = .ok (.lload_n 2, 1) := by decide +kernel
theorem dX8_endOf_21 : decode cX8_endOf 21 = .ok (.invokevirtual 102, 3) := by decide +kernel
theorem dX8_endOf_24 : decode cX8_endOf 24 = .ok (.istore 4, 2) := by decide +kernel
theorem dX8_endOf_26 : decode cX8_endOf 26 = .ok (.iload 4, 2) := by decide +kernel
theorem dX8_endOf_28 : decode cX8_endOf 28 = .ok (.iconst (-1), 1) := by decide +kernel
theorem dX8_endOf_29 : decode cX8_endOf 29 = .ok (.if_icmp .ne 5, 3) := by decide +kernel
theorem dX8_endOf_32 : decode cX8_endOf 32 = .ok (.lload_n 2, 1) := by decide +kernel
theorem dX8_endOf_33 : decode cX8_endOf 33 = .ok (.lreturn, 1) := by decide +kernel
theorem dX8_endOf_34 : decode cX8_endOf 34 = .ok (.aload_n 0, 1) := by decide +kernel
theorem dX8_endOf_35 : decode cX8_endOf 35 = .ok (.iload 4, 2) := by decide +kernel
theorem dX8_endOf_37 : decode cX8_endOf 37 = .ok (.invokevirtual 98, 3) := by decide +kernel
theorem dX8_endOf_40 : decode cX8_endOf 40 = .ok (.lstore_n 2, 1) := by decide +kernel
theorem dX8_endOf_41 : decode cX8_endOf 41 = .ok (.goto (-35), 3) := by decide +kernel
theorem dX8_endOf_44 : decode cX8_endOf 44 = .ok (.lconst 0, 1) := by decide +kernel
theorem dX8_endOf_45 : decode cX8_endOf 45 = .ok (.lreturn, 1) := by decide +kernel
theorem dX8_lowest_0 : decode cX8_lowest 0 = .ok (.iconst 0, 1) := by decide +kernel
theorem dX8_lowest_1 : decode cX8_lowest 1 = .ok (.istore_n 2, 1) := by decide +kernel
theorem dX8_lowest_2 : decode cX8_lowest 2 = .ok (.lload_n 0, 1) := by decide +kernel
theorem dX8_lowest_3 : decode cX8_lowest 3 = .ok (.iload_n 2, 1) := by decide +kernel
theorem dX8_lowest_4 : decode cX8_lowest 4 = .ok (.invokestatic 91, 3) := by decide +kernel
theorem dX8_lowest_7 : decode cX8_lowest 7 = .ok (.ifCond .ne 9, 3) := by decide +kernel
theorem dX8_lowest_10 : decode cX8_lowest 10 = .ok (.iinc 2 1, 3) := by decide +kernel
theorem dX8_lowest_13 : decode cX8_lowest 13 = .ok (.goto (-11), 3) := by decide +kernel
theorem dX8_lowest_16 : decode cX8_lowest 16 = .ok (.iload_n 2, 1) := by decide +kernel
theorem dX8_lowest_17 : decode cX8_lowest 17 = .ok (.ireturn, 1) := by decide +kernel
theorem dX8_finds_0 : decode cX8_finds 0 = .ok (.sipush 152, 3) := by decide +kernel
theorem dX8_finds_3 : decode cX8_finds 3 = .ok (.istore_n 1, 1) := by decide +kernel
theorem dX8_finds_4 : decode cX8_finds 4 = .ok (.iload_n 1, 1) := by decide +kernel
theorem dX8_finds_5 : decode cX8_finds 5 = .ok (.sipush 513, 3) := by decide +kernel
theorem dX8_finds_8 : decode cX8_finds 8 = .ok (.if_icmp .ge 16, 3) := by decide +kernel
theorem dX8_finds_11 : decode cX8_finds 11 = .ok (.aload_n 0, 1) := by decide +kernel
theorem dX8_finds_12 : decode cX8_finds 12 = .ok (.getfield 7, 3) := by decide +kernel
theorem dX8_finds_15 : decode cX8_finds 15 = .ok (.iload_n 1, 1) := by decide +kernel
theorem dX8_finds_16 : decode cX8_finds 16 = .ok (.lconst 0, 1) := by decide +kernel
theorem dX8_finds_17 : decode cX8_finds 17 = .ok (.lastore, 1) := by decide +kernel
theorem dX8_finds_18 : decode cX8_finds 18 = .ok (.iinc 1 1, 3) := by decide +kernel
theorem dX8_finds_21 : decode cX8_finds 21 = .ok (.goto (-17), 3) := by decide +kernel
theorem dX8_finds_24 : decode cX8_finds 24 = .ok (.iconst 0, 1) := by decide +kernel
theorem dX8_finds_25 : decode cX8_finds 25 = .ok (.istore_n 1, 1) := by decide +kernel
theorem dX8_finds_26 : decode cX8_finds 26 = .ok (.iload_n 1, 1) := by decide +kernel
theorem dX8_finds_27 : decode cX8_finds 27 = .ok (.aload_n 0, 1) := by decide +kernel
theorem dX8_finds_28 : decode cX8_finds 28 = .ok (.invokevirtual 61, 3) := by decide +kernel
theorem dX8_finds_31 : decode cX8_finds 31 = .ok (.if_icmp .ge 32, 3) := by decide +kernel
theorem dX8_finds_34 : decode cX8_finds 34 = .ok (.aload_n 0, 1) := by decide +kernel
theorem dX8_finds_35 : decode cX8_finds 35 = .ok (.getfield 19, 3) := by decide +kernel
theorem dX8_finds_38 : decode cX8_finds 38 = .ok (.iload_n 1, 1) := by decide +kernel
theorem dX8_finds_39 : decode cX8_finds 39 = .ok (.aload_n 0, 1) := by decide +kernel
theorem dX8_finds_40 : decode cX8_finds 40 = .ok (.iload_n 1, 1) := by decide +kernel
theorem dX8_finds_41 : decode cX8_finds 41 = .ok (.invokevirtual 106, 3) := by decide +kernel
theorem dX8_finds_44 : decode cX8_finds 44 = .ok (.lastore, 1) := by decide +kernel
theorem dX8_finds_45 : decode cX8_finds 45 = .ok (.aload_n 0, 1) := by decide +kernel
theorem dX8_finds_46 : decode cX8_finds 46 = .ok (.getfield 7, 3) := by decide +kernel
theorem dX8_finds_49 : decode cX8_finds 49 = .ok (.bipush 116, 2) := by decide +kernel
theorem dX8_finds_51 : decode cX8_finds 51 = .ok (.iload_n 1, 1) := by decide +kernel
theorem dX8_finds_52 : decode cX8_finds 52 = .ok (.iadd, 1) := by decide +kernel
theorem dX8_finds_53 : decode cX8_finds 53 = .ok (.ldc2_w 109, 3) := by decide +kernel
theorem dX8_finds_56 : decode cX8_finds 56 = .ok (.lastore, 1) := by decide +kernel
theorem dX8_finds_57 : decode cX8_finds 57 = .ok (.iinc 1 1, 3) := by decide +kernel
theorem dX8_finds_60 : decode cX8_finds 60 = .ok (.goto (-34), 3) := by decide +kernel
theorem dX8_finds_63 : decode cX8_finds 63 = .ok (.iconst 0, 1) := by decide +kernel
theorem dX8_finds_64 : decode cX8_finds 64 = .ok (.istore_n 1, 1) := by decide +kernel
theorem dX8_finds_65 : decode cX8_finds 65 = .ok (.iconst 0, 1) := by decide +kernel
theorem dX8_finds_66 : decode cX8_finds 66 = .ok (.istore_n 2, 1) := by decide +kernel
theorem dX8_finds_67 : decode cX8_finds 67 = .ok (.iload_n 2, 1) := by decide +kernel
theorem dX8_finds_68 : decode cX8_finds 68 = .ok (.aload_n 0, 1) := by decide +kernel
theorem dX8_finds_69 : decode cX8_finds 69 = .ok (.invokevirtual 61, 3) := by decide +kernel
theorem dX8_finds_72 : decode cX8_finds 72 = .ok (.if_icmp .ge 169, 3) := by decide +kernel
theorem dX8_finds_75 : decode cX8_finds 75 = .ok (.aload_n 0, 1) := by decide +kernel
theorem dX8_finds_76 : decode cX8_finds 76 = .ok (.getfield 19, 3) := by decide +kernel
theorem dX8_finds_79 : decode cX8_finds 79 = .ok (.iload_n 2, 1) := by decide +kernel
theorem dX8_finds_80 : decode cX8_finds 80 = .ok (.laload, 1) := by decide +kernel
theorem dX8_finds_81 : decode cX8_finds 81 = .ok (.lconst 0, 1) := by decide +kernel
theorem dX8_finds_82 : decode cX8_finds 82 = .ok (.lcmp, 1) := by decide +kernel
theorem dX8_finds_83 : decode cX8_finds 83 = .ok (.ifCond .eq 152, 3) := by decide +kernel
theorem dX8_finds_86 : decode cX8_finds 86 = .ok (.aload_n 0, 1) := by decide +kernel
theorem dX8_finds_87 : decode cX8_finds 87 = .ok (.getfield 19, 3) := by decide +kernel
theorem dX8_finds_90 : decode cX8_finds 90 = .ok (.iload_n 2, 1) := by decide +kernel
theorem dX8_finds_91 : decode cX8_finds 91 = .ok (.laload, 1) := by decide +kernel
theorem dX8_finds_92 : decode cX8_finds 92 = .ok (.iload_n 2, 1) := by decide +kernel
theorem dX8_finds_93 : decode cX8_finds 93 = .ok (.invokestatic 91, 3) := by decide +kernel
theorem dX8_finds_96 : decode cX8_finds 96 = .ok (.ifCond .eq 139, 3) := by decide +kernel
theorem dX8_finds_99 : decode cX8_finds 99 = .ok (.aload_n 0, 1) := by decide +kernel
theorem dX8_finds_100 : decode cX8_finds 100 = .ok (.getfield 19, 3) := by decide +kernel
theorem dX8_finds_103 : decode cX8_finds 103 = .ok (.iload_n 2, 1) := by decide +kernel
theorem dX8_finds_104 : decode cX8_finds 104 = .ok (.laload, 1) := by decide +kernel
theorem dX8_finds_105 : decode cX8_finds 105 = .ok (.invokestatic 111, 3) := by decide +kernel
theorem dX8_finds_108 : decode cX8_finds 108 = .ok (.iload_n 2, 1) := by decide +kernel
theorem dX8_finds_109 : decode cX8_finds 109 = .ok (.if_icmp .ne 126, 3) := by decide +kernel
theorem dX8_finds_112 : decode cX8_finds 112 = .ok (.iconst 0, 1) := by decide +kernel
theorem dX8_finds_113 : decode cX8_finds 113 = .ok (.istore_n 3, 1) := by decide +kernel
theorem dX8_finds_114 : decode cX8_finds 114 = .ok (.iload_n 3, 1) := by decide +kernel
theorem dX8_finds_115 : decode cX8_finds 115 = .ok (.aload_n 0, 1) := by decide +kernel
theorem dX8_finds_116 : decode cX8_finds 116 = .ok (.invokevirtual 61, 3) := by decide +kernel
theorem dX8_finds_119 : decode cX8_finds 119 = .ok (.if_icmp .ge 85, 3) := by decide +kernel
theorem dX8_finds_122 : decode cX8_finds 122 = .ok (.aload_n 0, 1) := by decide +kernel
theorem dX8_finds_123 : decode cX8_finds 123 = .ok (.getfield 19, 3) := by decide +kernel
theorem dX8_finds_126 : decode cX8_finds 126 = .ok (.iload_n 3, 1) := by decide +kernel
theorem dX8_finds_127 : decode cX8_finds 127 = .ok (.laload, 1) := by decide +kernel
theorem dX8_finds_128 : decode cX8_finds 128 = .ok (.aload_n 0, 1) := by decide +kernel
theorem dX8_finds_129 : decode cX8_finds 129 = .ok (.getfield 19, 3) := by decide +kernel
theorem dX8_finds_132 : decode cX8_finds 132 = .ok (.iload_n 2, 1) := by decide +kernel
theorem dX8_finds_133 : decode cX8_finds 133 = .ok (.laload, 1) := by decide +kernel
theorem dX8_finds_134 : decode cX8_finds 134 = .ok (.lcmp, 1) := by decide +kernel
theorem dX8_finds_135 : decode cX8_finds 135 = .ok (.ifCond .ne 7, 3) := by decide +kernel
theorem dX8_finds_138 : decode cX8_finds 138 = .ok (.iconst 1, 1) := by decide +kernel
theorem dX8_finds_139 : decode cX8_finds 139 = .ok (.goto 4, 3) := by decide +kernel
theorem dX8_finds_142 : decode cX8_finds 142 = .ok (.iconst 0, 1) := by decide +kernel
theorem dX8_finds_143 : decode cX8_finds 143 = .ok (.istore 4, 2) := by decide +kernel
theorem dX8_finds_145 : decode cX8_finds 145 = .ok (.aload_n 0, 1) := by decide +kernel
theorem dX8_finds_146 : decode cX8_finds 146 = .ok (.getfield 7, 3) := by decide +kernel
theorem dX8_finds_149 : decode cX8_finds 149 = .ok (.bipush 116, 2) := by decide +kernel
theorem dX8_finds_151 : decode cX8_finds 151 = .ok (.iload_n 3, 1) := by decide +kernel
theorem dX8_finds_152 : decode cX8_finds 152 = .ok (.iadd, 1) := by decide +kernel
theorem dX8_finds_153 : decode cX8_finds 153 = .ok (.iload 4, 2) := by decide +kernel
theorem dX8_finds_155 : decode cX8_finds 155 = .ok (.ifCond .eq 8, 3) := by decide +kernel
theorem dX8_finds_158 : decode cX8_finds 158 = .ok (.iload_n 1, 1) := by decide +kernel
theorem dX8_finds_159 : decode cX8_finds 159 = .ok (.i2l, 1) := by decide +kernel
theorem dX8_finds_160 : decode cX8_finds 160 = .ok (.goto 12, 3) := by decide +kernel
theorem dX8_finds_163 : decode cX8_finds 163 = .ok (.aload_n 0, 1) := by decide +kernel
theorem dX8_finds_164 : decode cX8_finds 164 = .ok (.getfield 7, 3) := by decide +kernel
theorem dX8_finds_167 : decode cX8_finds 167 = .ok (.bipush 116, 2) := by decide +kernel
theorem dX8_finds_169 : decode cX8_finds 169 = .ok (.iload_n 3, 1) := by decide +kernel
theorem dX8_finds_170 : decode cX8_finds 170 = .ok (.iadd, 1) := by decide +kernel
theorem dX8_finds_171 : decode cX8_finds 171 = .ok (.laload, 1) := by decide +kernel
theorem dX8_finds_172 : decode cX8_finds 172 = .ok (.lastore, 1) := by decide +kernel
theorem dX8_finds_173 : decode cX8_finds 173 = .ok (.aload_n 0, 1) := by decide +kernel
theorem dX8_finds_174 : decode cX8_finds 174 = .ok (.getfield 7, 3) := by decide +kernel
theorem dX8_finds_177 : decode cX8_finds 177 = .ok (.sipush 152, 3) := by decide +kernel
theorem dX8_finds_180 : decode cX8_finds 180 = .ok (.iload_n 1, 1) := by decide +kernel
theorem dX8_finds_181 : decode cX8_finds 181 = .ok (.iadd, 1) := by decide +kernel
theorem dX8_finds_182 : decode cX8_finds 182 = .ok (.dup2, 1) := by decide +kernel
theorem dX8_finds_183 : decode cX8_finds 183 = .ok (.laload, 1) := by decide +kernel
theorem dX8_finds_184 : decode cX8_finds 184 = .ok (.iload 4, 2) := by decide +kernel
theorem dX8_finds_186 : decode cX8_finds 186 = .ok (.ifCond .eq 9, 3) := by decide +kernel
theorem dX8_finds_189 : decode cX8_finds 189 = .ok (.lconst 1, 1) := by decide +kernel
theorem dX8_finds_190 : decode cX8_finds 190 = .ok (.iload_n 3, 1) := by decide +kernel
theorem dX8_finds_191 : decode cX8_finds 191 = .ok (.lshl, 1) := by decide +kernel
theorem dX8_finds_192 : decode cX8_finds 192 = .ok (.goto 4, 3) := by decide +kernel
theorem dX8_finds_195 : decode cX8_finds 195 = .ok (.lconst 0, 1) := by decide +kernel
theorem dX8_finds_196 : decode cX8_finds 196 = .ok (.lor, 1) := by decide +kernel
theorem dX8_finds_197 : decode cX8_finds 197 = .ok (.lastore, 1) := by decide +kernel
theorem dX8_finds_198 : decode cX8_finds 198 = .ok (.iinc 3 1, 3) := by decide +kernel
theorem dX8_finds_201 : decode cX8_finds 201 = .ok (.goto (-87), 3) := by decide +kernel
theorem dX8_finds_204 : decode cX8_finds 204 = .ok (.aload_n 0, 1) := by decide +kernel
theorem dX8_finds_205 : decode cX8_finds 205 = .ok (.getfield 7, 3) := by decide +kernel
theorem dX8_finds_208 : decode cX8_finds 208 = .ok (.sipush 512, 3) := by decide +kernel
theorem dX8_finds_211 : decode cX8_finds 211 = .ok (.dup2, 1) := by decide +kernel
theorem dX8_finds_212 : decode cX8_finds 212 = .ok (.laload, 1) := by decide +kernel
theorem dX8_finds_213 : decode cX8_finds 213 = .ok (.aload_n 0, 1) := by decide +kernel
theorem dX8_finds_214 : decode cX8_finds 214 = .ok (.getfield 19, 3) := by decide +kernel
theorem dX8_finds_217 : decode cX8_finds 217 = .ok (.iload_n 2, 1) := by decide +kernel
theorem dX8_finds_218 : decode cX8_finds 218 = .ok (.laload, 1) := by decide +kernel
theorem dX8_finds_219 : decode cX8_finds 219 = .ok (.lor, 1) := by decide +kernel
theorem dX8_finds_220 : decode cX8_finds 220 = .ok (.lastore, 1) := by decide +kernel
theorem dX8_finds_221 : decode cX8_finds 221 = .ok (.aload_n 0, 1) := by decide +kernel
theorem dX8_finds_222 : decode cX8_finds 222 = .ok (.getfield 7, 3) := by decide +kernel
theorem dX8_finds_225 : decode cX8_finds 225 = .ok (.sipush 440, 3) := by decide +kernel
theorem dX8_finds_228 : decode cX8_finds 228 = .ok (.iload_n 1, 1) := by decide +kernel
theorem dX8_finds_229 : decode cX8_finds 229 = .ok (.iadd, 1) := by decide +kernel
theorem dX8_finds_230 : decode cX8_finds 230 = .ok (.lconst 1, 1) := by decide +kernel
theorem dX8_finds_231 : decode cX8_finds 231 = .ok (.lastore, 1) := by decide +kernel
theorem dX8_finds_232 : decode cX8_finds 232 = .ok (.iinc 1 1, 3) := by decide +kernel
theorem dX8_finds_235 : decode cX8_finds 235 = .ok (.iinc 2 1, 3) := by decide +kernel
theorem dX8_finds_238 : decode cX8_finds 238 = .ok (.goto (-171), 3) := by decide +kernel
theorem dX8_finds_241 : decode cX8_finds 241 = .ok (.aload_n 0, 1) := by decide +kernel
theorem dX8_finds_242 : decode cX8_finds 242 = .ok (.getfield 7, 3) := by decide +kernel
theorem dX8_finds_245 : decode cX8_finds 245 = .ok (.bipush 6, 2) := by decide +kernel
theorem dX8_finds_247 : decode cX8_finds 247 = .ok (.iload_n 1, 1) := by decide +kernel
theorem dX8_finds_248 : decode cX8_finds 248 = .ok (.i2l, 1) := by decide +kernel
theorem dX8_finds_249 : decode cX8_finds 249 = .ok (.lastore, 1) := by decide +kernel
theorem dX8_finds_250 : decode cX8_finds 250 = .ok (.return_, 1) := by decide +kernel
theorem dX8_findsPass_0 : decode cX8_findsPass 0 = .ok (.aload_n 0, 1) := by decide +kernel
theorem dX8_findsPass_1 : decode cX8_findsPass 1 = .ok (.iconst (-1), 1) := by decide +kernel
theorem dX8_findsPass_2 : decode cX8_findsPass 2 = .ok (.putfield 114, 3) := by decide +kernel
theorem dX8_findsPass_5 : decode cX8_findsPass 5 = .ok (.aload_n 0, 1) := by decide +kernel
theorem dX8_findsPass_6 : decode cX8_findsPass 6 = .ok (.iconst (-1), 1) := by decide +kernel
theorem dX8_findsPass_7 : decode cX8_findsPass 7 = .ok (.putfield 117, 3) := by decide +kernel
theorem dX8_findsPass_10 : decode cX8_findsPass 10 = .ok (.aload_n 0, 1) := by decide +kernel
theorem dX8_findsPass_11 : decode cX8_findsPass 11 = .ok (.iconst (-1), 1) := by decide +kernel
theorem dX8_findsPass_12 : decode cX8_findsPass 12 = .ok (.putfield 120, 3) := by decide +kernel
theorem dX8_findsPass_15 : decode cX8_findsPass 15 = .ok (.aload_n 0, 1) := by decide +kernel
theorem dX8_findsPass_16 : decode cX8_findsPass 16 = .ok (.getfield 7, 3) := by decide +kernel
theorem dX8_findsPass_19 : decode cX8_findsPass 19 = .ok (.sipush 152, 3) := by decide +kernel
theorem dX8_findsPass_22 : decode cX8_findsPass 22 = .ok (.iload_n 1, 1) := by decide +kernel
theorem dX8_findsPass_23 : decode cX8_findsPass 23 = .ok (.iadd, 1) := by decide +kernel
theorem dX8_findsPass_24 : decode cX8_findsPass 24 = .ok (.laload, 1) := by decide +kernel
theorem dX8_findsPass_25 : decode cX8_findsPass 25 = .ok (.lstore_n 2, 1) := by decide +kernel
theorem dX8_findsPass_26 : decode cX8_findsPass 26 = .ok (.iconst 0, 1) := by decide +kernel
theorem dX8_findsPass_27 : decode cX8_findsPass 27 = .ok (.istore 4, 2) := by decide +kernel
theorem dX8_findsPass_29 : decode cX8_findsPass 29 = .ok (.iload 4, 2) := by decide +kernel
theorem dX8_findsPass_31 : decode cX8_findsPass 31 = .ok (.aload_n 0, 1) := by decide +kernel
theorem dX8_findsPass_32 : decode cX8_findsPass 32 = .ok (.invokevirtual 61, 3) := by decide +kernel
theorem dX8_findsPass_35 : decode cX8_findsPass 35 = .ok (.if_icmp .ge 105, 3) := by decide +kernel
theorem dX8_findsPass_38 : decode cX8_findsPass 38 = .ok (.iconst 0, 1) := by decide +kernel
theorem dX8_findsPass_39 : decode cX8_findsPass 39 = .ok (.istore 5, 2) := by decide +kernel
theorem dX8_findsPass_41 : decode cX8_findsPass 41 = .ok (.iload 5, 2) := by decide +kernel
theorem dX8_findsPass_43 : decode cX8_findsPass 43 = .ok (.iconst 4, 1) := by decide +kernel
theorem dX8_findsPass_44 : decode cX8_findsPass 44 = .ok (.if_icmp .ge 90, 3) := by decide +kernel
theorem dX8_findsPass_47 : decode cX8_findsPass 47 = .ok (.lload_n 2, 1) := by decide +kernel
theorem dX8_findsPass_48 : decode cX8_findsPass 48 = .ok (.iload 4, 2) := by decide +kernel
theorem dX8_findsPass_50 : decode cX8_findsPass 50 = .ok (.invokestatic 91, 3) := by decide +kernel
theorem dX8_findsPass_53 : decode cX8_findsPass 53 = .ok (.ifCond .eq 81, 3) := by decide +kernel
theorem dX8_findsPass_56 : decode cX8_findsPass 56 = .ok (.aload_n 0, 1) := by decide +kernel
theorem dX8_findsPass_57 : decode cX8_findsPass 57 = .ok (.iload 4, 2) := by decide +kernel
theorem dX8_findsPass_59 : decode cX8_findsPass 59 = .ok (.iload 5, 2) := by decide +kernel
theorem dX8_findsPass_61 : decode cX8_findsPass 61 = .ok (.invokevirtual 69, 3) := by decide +kernel
theorem dX8_findsPass_64 : decode cX8_findsPass 64 = .ok (.istore 6, 2) := by decide +kernel
theorem dX8_findsPass_66 : decode cX8_findsPass 66 = .ok (.iload 6, 2) := by decide +kernel
theorem dX8_findsPass_68 : decode cX8_findsPass 68 = .ok (.iconst (-1), 1) := by decide +kernel
theorem dX8_findsPass_69 : decode cX8_findsPass 69 = .ok (.if_icmp .eq 59, 3) := by decide +kernel
theorem dX8_findsPass_72 : decode cX8_findsPass 72 = .ok (.lload_n 2, 1) := by decide +kernel
theorem dX8_findsPass_73 : decode cX8_findsPass 73 = .ok (.iload 6, 2) := by decide +kernel
theorem dX8_findsPass_75 : decode cX8_findsPass 75 = .ok (.invokestatic 91, 3) := by decide +kernel
theorem dX8_findsPass_78 : decode cX8_findsPass 78 = .ok (.ifCond .ne 50, 3) := by decide +kernel
theorem dX8_findsPass_81 : decode cX8_findsPass 81 = .ok (.aload_n 0, 1) := by decide +kernel
theorem dX8_findsPass_82 : decode cX8_findsPass 82 = .ok (.getfield 114, 3) := by decide +kernel
theorem dX8_findsPass_85 : decode cX8_findsPass 85 = .ok (.iconst (-1), 1) := by decide +kernel
theorem dX8_findsPass_86 : decode cX8_findsPass 86 = .ok (.if_icmp .eq 18, 3) := by decide +kernel
theorem dX8_findsPass_89 : decode cX8_findsPass 89 = .ok (.aload_n 0, 1) := by decide +kernel
theorem dX8_findsPass_90 : decode cX8_findsPass 90 = .ok (.iload 4, 2) := by decide +kernel
theorem dX8_findsPass_92 : decode cX8_findsPass 92 = .ok (.iload 6, 2) := by decide +kernel
theorem dX8_findsPass_94 : decode cX8_findsPass 94 = .ok (.invokevirtual 84, 3) := by decide +kernel
theorem dX8_findsPass_97 : decode cX8_findsPass 97 = .ok (.aload_n 0, 1) := by decide +kernel
theorem dX8_findsPass_98 : decode cX8_findsPass 98 = .ok (.getfield 114, 3) := by decide +kernel
theorem dX8_findsPass_101 : decode cX8_findsPass 101 = .ok (.if_icmp .ge 27, 3) := by decide +kernel
theorem dX8_findsPass_104 : decode cX8_findsPass 104 = .ok (.aload_n 0, 1) := by decide +kernel
theorem dX8_findsPass_105 : decode cX8_findsPass 105 = .ok (.aload_n 0, 1) := by decide +kernel
theorem dX8_findsPass_106 : decode cX8_findsPass 106 = .ok (.iload 4, 2) := by decide +kernel
theorem dX8_findsPass_108 : decode cX8_findsPass 108 = .ok (.iload 6, 2) := by decide +kernel
theorem dX8_findsPass_110 : decode cX8_findsPass 110 = .ok (.invokevirtual 84, 3) := by decide +kernel
theorem dX8_findsPass_113 : decode cX8_findsPass 113 = .ok (.putfield 114, 3) := by decide +kernel
theorem dX8_findsPass_116 : decode cX8_findsPass 116 = .ok (.aload_n 0, 1) := by decide +kernel
theorem dX8_findsPass_117 : decode cX8_findsPass 117 = .ok (.iload 4, 2) := by decide +kernel
theorem dX8_findsPass_119 : decode cX8_findsPass 119 = .ok (.putfield 117, 3) := by decide +kernel
theorem dX8_findsPass_122 : decode cX8_findsPass 122 = .ok (.aload_n 0, 1) := by decide +kernel
theorem dX8_findsPass_123 : decode cX8_findsPass 123 = .ok (.iload 6, 2) := by decide +kernel
theorem dX8_findsPass_125 : decode cX8_findsPass 125 = .ok (.putfield 120, 3) := by decide +kernel
theorem dX8_findsPass_128 : decode cX8_findsPass 128 = .ok (.iinc 5 1, 3) := by decide +kernel
theorem dX8_findsPass_131 : decode cX8_findsPass 131 = .ok (.goto (-90), 3) := by decide +kernel
theorem dX8_findsPass_134 : decode cX8_findsPass 134 = .ok (.iinc 4 1, 3) := by decide +kernel
theorem dX8_findsPass_137 : decode cX8_findsPass 137 = .ok (.goto (-108), 3) := by decide +kernel
theorem dX8_findsPass_140 : decode cX8_findsPass 140 = .ok (.return_, 1) := by decide +kernel
theorem dX8_capacity_0 : decode cX8_capacity 0 = .ok (.aload_n 0, 1) := by decide +kernel
theorem dX8_capacity_1 : decode cX8_capacity 1 = .ok (.iload_n 1, 1) := by decide +kernel
theorem dX8_capacity_2 : decode cX8_capacity 2 = .ok (.invokevirtual 123, 3) := by decide +kernel
theorem dX8_capacity_5 : decode cX8_capacity 5 = .ok (.lconst 0, 1) := by decide +kernel
theorem dX8_capacity_6 : decode cX8_capacity 6 = .ok (.lstore_n 2, 1) := by decide +kernel
theorem dX8_capacity_7 : decode cX8_capacity 7 = .ok (.iconst 0, 1) := by decide +kernel
theorem dX8_capacity_8 : decode cX8_capacity 8 = .ok (.istore 4, 2) := by decide +kernel
theorem dX8_capacity_10 : decode cX8_capacity 10 = .ok (.iload 4, 2) := by decide +kernel
theorem dX8_capacity_12 : decode cX8_capacity 12 = .ok (.aload_n 0, 1) := by decide +kernel
theorem dX8_capacity_13 : decode cX8_capacity 13 = .ok (.invokevirtual 61, 3) := by decide +kernel
theorem dX8_capacity_16 : decode cX8_capacity 16 = .ok (.if_icmp .ge 67, 3) := by decide +kernel
theorem dX8_capacity_19 : decode cX8_capacity 19 = .ok (.aload_n 0, 1) := by decide +kernel
theorem dX8_capacity_20 : decode cX8_capacity 20 = .ok (.getfield 114, 3) := by decide +kernel
theorem dX8_capacity_23 : decode cX8_capacity 23 = .ok (.iconst (-1), 1) := by decide +kernel
theorem dX8_capacity_24 : decode cX8_capacity 24 = .ok (.if_icmp .eq 59, 3) := by decide +kernel
theorem dX8_capacity_27 : decode cX8_capacity 27 = .ok (.lload_n 2, 1) := by decide +kernel
theorem dX8_capacity_28 : decode cX8_capacity 28 = .ok (.aload_n 0, 1) := by decide +kernel
theorem dX8_capacity_29 : decode cX8_capacity 29 = .ok (.getfield 7, 3) := by decide +kernel
theorem dX8_capacity_32 : decode cX8_capacity 32 = .ok (.sipush 152, 3) := by decide +kernel
theorem dX8_capacity_35 : decode cX8_capacity 35 = .ok (.iload_n 1, 1) := by decide +kernel
theorem dX8_capacity_36 : decode cX8_capacity 36 = .ok (.iadd, 1) := by decide +kernel
theorem dX8_capacity_37 : decode cX8_capacity 37 = .ok (.laload, 1) := by decide +kernel
theorem dX8_capacity_38 : decode cX8_capacity 38 = .ok (.iload 4, 2) := by decide +kernel
theorem dX8_capacity_40 : decode cX8_capacity 40 = .ok (.invokestatic 91, 3) := by decide +kernel
theorem dX8_capacity_43 : decode cX8_capacity 43 = .ok (.ifCond .eq 31, 3) := by decide +kernel
theorem dX8_capacity_46 : decode cX8_capacity 46 = .ok (.aload_n 0, 1) := by decide +kernel
theorem dX8_capacity_47 : decode cX8_capacity 47 = .ok (.iload 4, 2) := by decide +kernel
theorem dX8_capacity_49 : decode cX8_capacity 49 = .ok (.invokevirtual 87, 3) := by decide +kernel
theorem dX8_capacity_52 : decode cX8_capacity 52 = .ok (.aload_n 0, 1) := by decide +kernel
theorem dX8_capacity_53 : decode cX8_capacity 53 = .ok (.getfield 114, 3) := by decide +kernel
theorem dX8_capacity_56 : decode cX8_capacity 56 = .ok (.if_icmp .ge 18, 3) := by decide +kernel
theorem dX8_capacity_59 : decode cX8_capacity 59 = .ok (.aload_n 0, 1) := by decide +kernel
theorem dX8_capacity_60 : decode cX8_capacity 60 = .ok (.getfield 114, 3) := by decide +kernel
theorem dX8_capacity_63 : decode cX8_capacity 63 = .ok (.aload_n 0, 1) := by decide +kernel
theorem dX8_capacity_64 : decode cX8_capacity 64 = .ok (.iload 4, 2) := by decide +kernel
theorem dX8_capacity_66 : decode cX8_capacity 66 = .ok (.invokevirtual 87, 3) := by decide +kernel
theorem dX8_capacity_69 : decode cX8_capacity 69 = .ok (.isub, 1) := by decide +kernel
theorem dX8_capacity_70 : decode cX8_capacity 70 = .ok (.i2l, 1) := by decide +kernel
theorem dX8_capacity_71 : decode cX8_capacity 71 = .ok (.goto 4, 3) := by decide +kernel
theorem dX8_capacity_74 : decode cX8_capacity 74 = .ok (.lconst 0, 1) := by decide +kernel
theorem dX8_capacity_75 : decode cX8_capacity 75 = .ok (.ladd, 1) := by decide +kernel
theorem dX8_capacity_76 : decode cX8_capacity 76 = .ok (.lstore_n 2, 1) := by decide +kernel
theorem dX8_capacity_77 : decode cX8_capacity 77 = .ok (.iinc 4 1, 3) := by decide +kernel
theorem dX8_capacity_80 : decode cX8_capacity 80 = .ok (.goto (-70), 3) := by decide +kernel
theorem dX8_capacity_83 : decode cX8_capacity 83 = .ok (.aload_n 0, 1) := by decide +kernel
theorem dX8_capacity_84 : decode cX8_capacity 84 = .ok (.getfield 114, 3) := by decide +kernel
theorem dX8_capacity_87 : decode cX8_capacity 87 = .ok (.iconst (-1), 1) := by decide +kernel
theorem dX8_capacity_88 : decode cX8_capacity 88 = .ok (.if_icmp .ne 9, 3) := by decide +kernel
theorem dX8_capacity_91 : decode cX8_capacity 91 = .ok (.ldc2_w 109, 3) := by decide +kernel
theorem dX8_capacity_94 : decode cX8_capacity 94 = .ok (.goto 4, 3) := by decide +kernel
theorem dX8_capacity_97 : decode cX8_capacity 97 = .ok (.lload_n 2, 1) := by decide +kernel
theorem dX8_capacity_98 : decode cX8_capacity 98 = .ok (.lreturn, 1) := by decide +kernel
theorem dX8_isFull_0 : decode cX8_isFull 0 = .ok (.aload_n 0, 1) := by decide +kernel
theorem dX8_isFull_1 : decode cX8_isFull 1 = .ok (.getfield 7, 3) := by decide +kernel
theorem dX8_isFull_4 : decode cX8_isFull 4 = .ok (.sipush 224, 3) := by decide +kernel
theorem dX8_isFull_7 : decode cX8_isFull 7 = .ok (.iload_n 1, 1) := by decide +kernel
theorem dX8_isFull_8 : decode cX8_isFull 8 = .ok (.iadd, 1) := by decide +kernel
theorem dX8_isFull_9 : decode cX8_isFull 9 = .ok (.laload, 1) := by decide +kernel
theorem dX8_isFull_10 : decode cX8_isFull 10 = .ok (.aload_n 0, 1) := by decide +kernel
theorem dX8_isFull_11 : decode cX8_isFull 11 = .ok (.iload_n 1, 1) := by decide +kernel
theorem dX8_isFull_12 : decode cX8_isFull 12 = .ok (.invokevirtual 127, 3) := by decide +kernel
theorem dX8_isFull_15 : decode cX8_isFull 15 = .ok (.lcmp, 1) := by decide +kernel
theorem dX8_isFull_16 : decode cX8_isFull 16 = .ok (.ifCond .ne 7, 3) := by decide +kernel
theorem dX8_isFull_19 : decode cX8_isFull 19 = .ok (.iconst 1, 1) := by decide +kernel
theorem dX8_isFull_20 : decode cX8_isFull 20 = .ok (.goto 4, 3) := by decide +kernel
theorem dX8_isFull_23 : decode cX8_isFull 23 = .ok (.iconst 0, 1) := by decide +kernel
theorem dX8_isFull_24 : decode cX8_isFull 24 = .ok (.ireturn, 1) := by decide +kernel
theorem dX8_isJoined_0 : decode cX8_isJoined 0 = .ok (.aload_n 0, 1) := by decide +kernel
theorem dX8_isJoined_1 : decode cX8_isJoined 1 = .ok (.getfield 7, 3) := by decide +kernel
theorem dX8_isJoined_4 : decode cX8_isJoined 4 = .ok (.sipush 296, 3) := by decide +kernel
theorem dX8_isJoined_7 : decode cX8_isJoined 7 = .ok (.iload_n 1, 1) := by decide +kernel
theorem dX8_isJoined_8 : decode cX8_isJoined 8 = .ok (.iadd, 1) := by decide +kernel
theorem dX8_isJoined_9 : decode cX8_isJoined 9 = .ok (.laload, 1) := by decide +kernel
theorem dX8_isJoined_10 : decode cX8_isJoined 10 = .ok (.aload_n 0, 1) := by decide +kernel
theorem dX8_isJoined_11 : decode cX8_isJoined 11 = .ok (.getfield 7, 3) := by decide +kernel
theorem dX8_isJoined_14 : decode cX8_isJoined 14 = .ok (.sipush 368, 3) := by decide +kernel
theorem dX8_isJoined_17 : decode cX8_isJoined 17 = .ok (.iload_n 1, 1) := by decide +kernel
theorem dX8_isJoined_18 : decode cX8_isJoined 18 = .ok (.iadd, 1) := by decide +kernel
theorem dX8_isJoined_19 : decode cX8_isJoined 19 = .ok (.laload, 1) := by decide +kernel
theorem dX8_isJoined_20 : decode cX8_isJoined 20 = .ok (.lcmp, 1) := by decide +kernel
theorem dX8_isJoined_21 : decode cX8_isJoined 21 = .ok (.ifCond .eq 7, 3) := by decide +kernel
theorem dX8_isJoined_24 : decode cX8_isJoined 24 = .ok (.iconst 1, 1) := by decide +kernel
theorem dX8_isJoined_25 : decode cX8_isJoined 25 = .ok (.goto 4, 3) := by decide +kernel
theorem dX8_isJoined_28 : decode cX8_isJoined 28 = .ok (.iconst 0, 1) := by decide +kernel
theorem dX8_isJoined_29 : decode cX8_isJoined 29 = .ok (.ireturn, 1) := by decide +kernel
theorem dX8_leastVolume_0 : decode cX8_leastVolume 0 = .ok (.aload_n 0, 1) := by decide +kernel
theorem dX8_leastVolume_1 : decode cX8_leastVolume 1 = .ok (.iload_n 1, 1) := by decide +kernel
theorem dX8_leastVolume_2 : decode cX8_leastVolume 2 = .ok (.invokevirtual 130, 3) := by decide +kernel
theorem dX8_leastVolume_5 : decode cX8_leastVolume 5 = .ok (.ifCond .eq 37, 3) := by decide +kernel
theorem dX8_leastVolume_8 : decode cX8_leastVolume 8 = .ok (.aload_n 0, 1) := by decide +kernel
theorem dX8_leastVolume_9 : decode cX8_leastVolume 9 = .ok (.aload_n 0, 1) := by decide +kernel
theorem dX8_leastVolume_10 : decode cX8_leastVolume 10 = .ok (.getfield 7, 3) := by decide +kernel
theorem dX8_leastVolume_13 : decode cX8_leastVolume 13 = .ok (.sipush 296, 3) := by decide +kernel
theorem dX8_leastVolume_16 : decode cX8_leastVolume 16 = .ok (.iload_n 1, 1) := by decide +kernel
theorem dX8_leastVolume_17 : decode cX8_leastVolume 17 = .ok (.iadd, 1) := by decide +kernel
theorem dX8_leastVolume_18 : decode cX8_leastVolume 18 = .ok (.laload, 1) := by decide +kernel
theorem dX8_leastVolume_19 : decode cX8_leastVolume 19 = .ok (.l2i, 1) := by decide +kernel
theorem dX8_leastVolume_20 : decode cX8_leastVolume 20 = .ok (.invokevirtual 127, 3) := by decide +kernel
theorem dX8_leastVolume_23 : decode cX8_leastVolume 23 = .ok (.aload_n 0, 1) := by decide +kernel
theorem dX8_leastVolume_24 : decode cX8_leastVolume 24 = .ok (.aload_n 0, 1) := by decide +kernel
theorem dX8_leastVolume_25 : decode cX8_leastVolume 25 = .ok (.getfield 7, 3) := by decide +kernel
theorem dX8_leastVolume_28 : decode cX8_leastVolume 28 = .ok (.sipush 368, 3) := by decide +kernel
theorem dX8_leastVolume_31 : decode cX8_leastVolume 31 = .ok (.iload_n 1, 1) := by decide +kernel
theorem dX8_leastVolume_32 : decode cX8_leastVolume 32 = .ok (.iadd, 1) := by decide +kernel
theorem dX8_leastVolume_33 : decode cX8_leastVolume 33 = .ok (.laload, 1) := by decide +kernel
theorem dX8_leastVolume_34 : decode cX8_leastVolume 34 = .ok (.l2i, 1) := by decide +kernel
theorem dX8_leastVolume_35 : decode cX8_leastVolume 35 = .ok (.invokevirtual 127, 3) := by decide +kernel
theorem dX8_leastVolume_38 : decode cX8_leastVolume 38 = .ok (.ladd, 1) := by decide +kernel
theorem dX8_leastVolume_39 : decode cX8_leastVolume 39 = .ok (.goto 4, 3) := by decide +kernel
theorem dX8_leastVolume_42 : decode cX8_leastVolume 42 = .ok (.lconst 0, 1) := by decide +kernel
theorem dX8_leastVolume_43 : decode cX8_leastVolume 43 = .ok (.lreturn, 1) := by decide +kernel
theorem dX8_lakeOf_0 : decode cX8_lakeOf 0 = .ok (.iconst (-1), 1) := by decide +kernel
theorem dX8_lakeOf_1 : decode cX8_lakeOf 1 = .ok (.istore_n 2, 1) := by decide +kernel
theorem dX8_lakeOf_2 : decode cX8_lakeOf 2 = .ok (.iconst 0, 1) := by decide +kernel
theorem dX8_lakeOf_3 : decode cX8_lakeOf 3 = .ok (.istore_n 3, 1) := by decide +kernel
theorem dX8_lakeOf_4 : decode cX8_lakeOf 4 = .ok (.iload_n 3, 1) := by decide +kernel
theorem dX8_lakeOf_5 : decode cX8_lakeOf 5 = .ok (.bipush 72, 2) := by decide +kernel
theorem dX8_lakeOf_7 : decode cX8_lakeOf 7 = .ok (.if_icmp .ge 47, 3) := by decide +kernel
theorem dX8_lakeOf_10 : decode cX8_lakeOf 10 = .ok (.aload_n 0, 1) := by decide +kernel
theorem dX8_lakeOf_11 : decode cX8_lakeOf 11 = .ok (.getfield 7, 3) := by decide +kernel
theorem dX8_lakeOf_14 : decode cX8_lakeOf 14 = .ok (.sipush 440, 3) := by decide +kernel
theorem dX8_lakeOf_17 : decode cX8_lakeOf 17 = .ok (.iload_n 3, 1) := by decide +kernel
theorem dX8_lakeOf_18 : decode cX8_lakeOf 18 = .ok (.iadd, 1) := by decide +kernel
theorem dX8_lakeOf_19 : decode cX8_lakeOf 19 = .ok (.laload, 1) := by decide +kernel
theorem dX8_lakeOf_20 : decode cX8_lakeOf 20 = .ok (.lconst 1, 1) := by decide +kernel
theorem dX8_lakeOf_21 : decode cX8_lakeOf 21 = .ok (.lcmp, 1) := by decide +kernel
theorem dX8_lakeOf_22 : decode cX8_lakeOf 22 = .ok (.ifCond .ne 24, 3) := by decide +kernel
theorem dX8_lakeOf_25 : decode cX8_lakeOf 25 = .ok (.aload_n 0, 1) := by decide +kernel
theorem dX8_lakeOf_26 : decode cX8_lakeOf 26 = .ok (.getfield 7, 3) := by decide +kernel
theorem dX8_lakeOf_29 : decode cX8_lakeOf 29 = .ok (.sipush 152, 3) := by decide +kernel
theorem dX8_lakeOf_32 : decode cX8_lakeOf 32 = .ok (.iload_n 3, 1) := by decide +kernel
theorem dX8_lakeOf_33 : decode cX8_lakeOf 33 = .ok (.iadd, 1) := by decide +kernel
theorem dX8_lakeOf_34 : decode cX8_lakeOf 34 = .ok (.laload, 1) := by decide +kernel
theorem dX8_lakeOf_35 : decode cX8_lakeOf 35 = .ok (.iload_n 1, 1) := by decide +kernel
theorem dX8_lakeOf_36 : decode cX8_lakeOf 36 = .ok (.invokestatic 91, 3) := by decide +kernel
theorem dX8_lakeOf_39 : decode cX8_lakeOf 39 = .ok (.ifCond .eq 7, 3) := by decide +kernel
theorem dX8_lakeOf_42 : decode cX8_lakeOf 42 = .ok (.iload_n 3, 1) := by decide +kernel
theorem dX8_lakeOf_43 : decode cX8_lakeOf 43 = .ok (.goto 4, 3) := by decide +kernel
theorem dX8_lakeOf_46 : decode cX8_lakeOf 46 = .ok (.iload_n 2, 1) := by decide +kernel
theorem dX8_lakeOf_47 : decode cX8_lakeOf 47 = .ok (.istore_n 2, 1) := by decide +kernel
theorem dX8_lakeOf_48 : decode cX8_lakeOf 48 = .ok (.iinc 3 1, 3) := by decide +kernel
theorem dX8_lakeOf_51 : decode cX8_lakeOf 51 = .ok (.goto (-47), 3) := by decide +kernel
theorem dX8_lakeOf_54 : decode cX8_lakeOf 54 = .ok (.iload_n 2, 1) := by decide +kernel
theorem dX8_lakeOf_55 : decode cX8_lakeOf 55 = .ok (.ireturn, 1) := by decide +kernel
theorem dX8_join_0 : decode cX8_join 0 = .ok (.iconst 0, 1) := by decide +kernel
theorem dX8_join_1 : decode cX8_join 1 = .ok (.istore_n 3, 1) := by decide +kernel
theorem dX8_join_2 : decode cX8_join 2 = .ok (.aload_n 0, 1) := by decide +kernel
theorem dX8_join_3 : decode cX8_join 3 = .ok (.getfield 7, 3) := by decide +kernel
theorem dX8_join_6 : decode cX8_join 6 = .ok (.sipush 152, 3) := by decide +kernel
theorem dX8_join_9 : decode cX8_join 9 = .ok (.iload_n 3, 1) := by decide +kernel
theorem dX8_join_10 : decode cX8_join 10 = .ok (.iadd, 1) := by decide +kernel
theorem dX8_join_11 : decode cX8_join 11 = .ok (.laload, 1) := by decide +kernel
theorem dX8_join_12 : decode cX8_join 12 = .ok (.lconst 0, 1) := by decide +kernel
theorem dX8_join_13 : decode cX8_join 13 = .ok (.lcmp, 1) := by decide +kernel
theorem dX8_join_14 : decode cX8_join 14 = .ok (.ifCond .eq 9, 3) := by decide +kernel
theorem dX8_join_17 : decode cX8_join 17 = .ok (.iinc 3 1, 3) := by decide +kernel
theorem dX8_join_20 : decode cX8_join 20 = .ok (.goto (-18), 3) := by decide +kernel
theorem dX8_join_23 : decode cX8_join 23 = .ok (.aload_n 0, 1) := by decide +kernel
theorem dX8_join_24 : decode cX8_join 24 = .ok (.getfield 7, 3) := by decide +kernel
theorem dX8_join_27 : decode cX8_join 27 = .ok (.sipush 152, 3) := by decide +kernel
theorem dX8_join_30 : decode cX8_join 30 = .ok (.iload_n 3, 1) := by decide +kernel
theorem dX8_join_31 : decode cX8_join 31 = .ok (.iadd, 1) := by decide +kernel
theorem dX8_join_32 : decode cX8_join 32 = .ok (.aload_n 0, 1) := by decide +kernel
theorem dX8_join_33 : decode cX8_join 33 = .ok (.getfield 7, 3) := by decide +kernel
theorem dX8_join_36 : decode cX8_join 36 = .ok (.sipush 152, 3) := by decide +kernel
theorem dX8_join_39 : decode cX8_join 39 = .ok (.iload_n 1, 1) := by decide +kernel
theorem dX8_join_40 : decode cX8_join 40 = .ok (.iadd, 1) := by decide +kernel
theorem dX8_join_41 : decode cX8_join 41 = .ok (.laload, 1) := by decide +kernel
theorem dX8_join_42 : decode cX8_join 42 = .ok (.aload_n 0, 1) := by decide +kernel
theorem dX8_join_43 : decode cX8_join 43 = .ok (.getfield 7, 3) := by decide +kernel
theorem dX8_join_46 : decode cX8_join 46 = .ok (.sipush 152, 3) := by decide +kernel
theorem dX8_join_49 : decode cX8_join 49 = .ok (.iload_n 2, 1) := by decide +kernel
theorem dX8_join_50 : decode cX8_join 50 = .ok (.iadd, 1) := by decide +kernel
theorem dX8_join_51 : decode cX8_join 51 = .ok (.laload, 1) := by decide +kernel
theorem dX8_join_52 : decode cX8_join 52 = .ok (.lor, 1) := by decide +kernel
theorem dX8_join_53 : decode cX8_join 53 = .ok (.lastore, 1) := by decide +kernel
theorem dX8_join_54 : decode cX8_join 54 = .ok (.aload_n 0, 1) := by decide +kernel
theorem dX8_join_55 : decode cX8_join 55 = .ok (.getfield 7, 3) := by decide +kernel
theorem dX8_join_58 : decode cX8_join 58 = .ok (.sipush 224, 3) := by decide +kernel
theorem dX8_join_61 : decode cX8_join 61 = .ok (.iload_n 3, 1) := by decide +kernel
theorem dX8_join_62 : decode cX8_join 62 = .ok (.iadd, 1) := by decide +kernel
theorem dX8_join_63 : decode cX8_join 63 = .ok (.aload_n 0, 1) := by decide +kernel
theorem dX8_join_64 : decode cX8_join 64 = .ok (.getfield 7, 3) := by decide +kernel
theorem dX8_join_67 : decode cX8_join 67 = .ok (.sipush 224, 3) := by decide +kernel
theorem dX8_join_70 : decode cX8_join 70 = .ok (.iload_n 1, 1) := by decide +kernel
theorem dX8_join_71 : decode cX8_join 71 = .ok (.iadd, 1) := by decide +kernel
theorem dX8_join_72 : decode cX8_join 72 = .ok (.laload, 1) := by decide +kernel
theorem dX8_join_73 : decode cX8_join 73 = .ok (.aload_n 0, 1) := by decide +kernel
theorem dX8_join_74 : decode cX8_join 74 = .ok (.getfield 7, 3) := by decide +kernel
theorem dX8_join_77 : decode cX8_join 77 = .ok (.sipush 224, 3) := by decide +kernel
theorem dX8_join_80 : decode cX8_join 80 = .ok (.iload_n 2, 1) := by decide +kernel
theorem dX8_join_81 : decode cX8_join 81 = .ok (.iadd, 1) := by decide +kernel
theorem dX8_join_82 : decode cX8_join 82 = .ok (.laload, 1) := by decide +kernel
theorem dX8_join_83 : decode cX8_join 83 = .ok (.ladd, 1) := by decide +kernel
theorem dX8_join_84 : decode cX8_join 84 = .ok (.lastore, 1) := by decide +kernel
theorem dX8_join_85 : decode cX8_join 85 = .ok (.aload_n 0, 1) := by decide +kernel
theorem dX8_join_86 : decode cX8_join 86 = .ok (.getfield 7, 3) := by decide +kernel
theorem dX8_join_89 : decode cX8_join 89 = .ok (.sipush 296, 3) := by decide +kernel
theorem dX8_join_92 : decode cX8_join 92 = .ok (.iload_n 3, 1) := by decide +kernel
theorem dX8_join_93 : decode cX8_join 93 = .ok (.iadd, 1) := by decide +kernel
theorem dX8_join_94 : decode cX8_join 94 = .ok (.iload_n 1, 1) := by decide +kernel
theorem dX8_join_95 : decode cX8_join 95 = .ok (.i2l, 1) := by decide +kernel
theorem dX8_join_96 : decode cX8_join 96 = .ok (.lastore, 1) := by decide +kernel
theorem dX8_join_97 : decode cX8_join 97 = .ok (.aload_n 0, 1) := by decide +kernel
theorem dX8_join_98 : decode cX8_join 98 = .ok (.getfield 7, 3) := by decide +kernel
theorem dX8_join_101 : decode cX8_join 101 = .ok (.sipush 368, 3) := by decide +kernel
theorem dX8_join_104 : decode cX8_join 104 = .ok (.iload_n 3, 1) := by decide +kernel
theorem dX8_join_105 : decode cX8_join 105 = .ok (.iadd, 1) := by decide +kernel
theorem dX8_join_106 : decode cX8_join 106 = .ok (.iload_n 2, 1) := by decide +kernel
theorem dX8_join_107 : decode cX8_join 107 = .ok (.i2l, 1) := by decide +kernel
theorem dX8_join_108 : decode cX8_join 108 = .ok (.lastore, 1) := by decide +kernel
theorem dX8_join_109 : decode cX8_join 109 = .ok (.aload_n 0, 1) := by decide +kernel
theorem dX8_join_110 : decode cX8_join 110 = .ok (.getfield 7, 3) := by decide +kernel
theorem dX8_join_113 : decode cX8_join 113 = .ok (.sipush 440, 3) := by decide +kernel
theorem dX8_join_116 : decode cX8_join 116 = .ok (.iload_n 3, 1) := by decide +kernel
theorem dX8_join_117 : decode cX8_join 117 = .ok (.iadd, 1) := by decide +kernel
theorem dX8_join_118 : decode cX8_join 118 = .ok (.lconst 1, 1) := by decide +kernel
theorem dX8_join_119 : decode cX8_join 119 = .ok (.lastore, 1) := by decide +kernel
theorem dX8_join_120 : decode cX8_join 120 = .ok (.aload_n 0, 1) := by decide +kernel
theorem dX8_join_121 : decode cX8_join 121 = .ok (.getfield 7, 3) := by decide +kernel
