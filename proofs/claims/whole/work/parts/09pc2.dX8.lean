theorem dX8_cellValue_0 : decode cX8_cellValue 0 = .ok (.aload_n 0, 1) := by decide +kernel
theorem dX8_cellValue_1 : decode cX8_cellValue 1 = .ok (.iload_n 1, 1) := by decide +kernel
theorem dX8_cellValue_2 : decode cX8_cellValue 2 = .ok (.invokevirtual 133, 3) := by decide +kernel
theorem dX8_cellValue_5 : decode cX8_cellValue 5 = .ok (.istore_n 3, 1) := by decide +kernel
theorem dX8_cellValue_6 : decode cX8_cellValue 6 = .ok (.iload_n 2, 1) := by decide +kernel
theorem dX8_cellValue_7 : decode cX8_cellValue 7 = .ok (.tableswitch 102 0 4 #[33, 39, 58, 69, 88], 33) := by decide +kernel
theorem dX8_cellValue_40 : decode cX8_cellValue 40 = .ok (.aload_n 0, 1) := by decide +kernel
theorem dX8_cellValue_41 : decode cX8_cellValue 41 = .ok (.iload_n 1, 1) := by decide +kernel
theorem dX8_cellValue_42 : decode cX8_cellValue 42 = .ok (.invokevirtual 87, 3) := by decide +kernel
theorem dX8_cellValue_45 : decode cX8_cellValue 45 = .ok (.ireturn, 1) := by decide +kernel
theorem dX8_cellValue_46 : decode cX8_cellValue 46 = .ok (.aload_n 0, 1) := by decide +kernel
theorem dX8_cellValue_47 : decode cX8_cellValue 47 = .ok (.getfield 7, 3) := by decide +kernel
theorem dX8_cellValue_50 : decode cX8_cellValue 50 = .ok (.iconst 2, 1) := by decide +kernel
theorem dX8_cellValue_51 : decode cX8_cellValue 51 = .ok (.laload, 1) := by decide +kernel
theorem dX8_cellValue_52 : decode cX8_cellValue 52 = .ok (.iload_n 1, 1) := by decide +kernel
theorem dX8_cellValue_53 : decode cX8_cellValue 53 = .ok (.invokestatic 91, 3) := by decide +kernel
theorem dX8_cellValue_56 : decode cX8_cellValue 56 = .ok (.ifCond .eq 7, 3) := by decide +kernel
theorem dX8_cellValue_59 : decode cX8_cellValue 59 = .ok (.iconst 1, 1) := by decide +kernel
theorem dX8_cellValue_60 : decode cX8_cellValue 60 = .ok (.goto 4, 3) := by decide +kernel
theorem dX8_cellValue_63 : decode cX8_cellValue 63 = .ok (.iconst 0, 1) := by decide +kernel
theorem dX8_cellValue_64 : decode cX8_cellValue 64 = .ok (.ireturn, 1) := by decide +kernel
theorem dX8_cellValue_65 : decode cX8_cellValue 65 = .ok (.aload_n 0, 1) := by decide +kernel
theorem dX8_cellValue_66 : decode cX8_cellValue 66 = .ok (.getfield 7, 3) := by decide +kernel
theorem dX8_cellValue_69 : decode cX8_cellValue 69 = .ok (.bipush 116, 2) := by decide +kernel
theorem dX8_cellValue_71 : decode cX8_cellValue 71 = .ok (.iload_n 1, 1) := by decide +kernel
theorem dX8_cellValue_72 : decode cX8_cellValue 72 = .ok (.iadd, 1) := by decide +kernel
theorem dX8_cellValue_73 : decode cX8_cellValue 73 = .ok (.laload, 1) := by decide +kernel
theorem dX8_cellValue_74 : decode cX8_cellValue 74 = .ok (.l2i, 1) := by decide +kernel
theorem dX8_cellValue_75 : decode cX8_cellValue 75 = .ok (.ireturn, 1) := by decide +kernel
theorem dX8_cellValue_76 : decode cX8_cellValue 76 = .ok (.aload_n 0, 1) := by decide +kernel
theorem dX8_cellValue_77 : decode cX8_cellValue 77 = .ok (.invokevirtual 152, 3) := by decide +kernel
theorem dX8_cellValue_80 : decode cX8_cellValue 80 = .ok (.iload_n 3, 1) := by decide +kernel
theorem dX8_cellValue_81 : decode cX8_cellValue 81 = .ok (.iconst (-1), 1) := by decide +kernel
theorem dX8_cellValue_82 : decode cX8_cellValue 82 = .ok (.if_icmp .ne 7, 3) := by decide +kernel
theorem dX8_cellValue_85 : decode cX8_cellValue 85 = .ok (.iconst (-1), 1) := by decide +kernel
theorem dX8_cellValue_86 : decode cX8_cellValue 86 = .ok (.goto 8, 3) := by decide +kernel
theorem dX8_cellValue_89 : decode cX8_cellValue 89 = .ok (.aload_n 0, 1) := by decide +kernel
theorem dX8_cellValue_90 : decode cX8_cellValue 90 = .ok (.iload_n 3, 1) := by decide +kernel
theorem dX8_cellValue_91 : decode cX8_cellValue 91 = .ok (.invokevirtual 211, 3) := by decide +kernel
theorem dX8_cellValue_94 : decode cX8_cellValue 94 = .ok (.ireturn, 1) := by decide +kernel
theorem dX8_cellValue_95 : decode cX8_cellValue 95 = .ok (.aload_n 0, 1) := by decide +kernel
theorem dX8_cellValue_96 : decode cX8_cellValue 96 = .ok (.iload_n 1, 1) := by decide +kernel
theorem dX8_cellValue_97 : decode cX8_cellValue 97 = .ok (.invokevirtual 165, 3) := by decide +kernel
theorem dX8_cellValue_100 : decode cX8_cellValue 100 = .ok (.ifCond .eq 7, 3) := by decide +kernel
theorem dX8_cellValue_103 : decode cX8_cellValue 103 = .ok (.iconst 1, 1) := by decide +kernel
theorem dX8_cellValue_104 : decode cX8_cellValue 104 = .ok (.goto 4, 3) := by decide +kernel
theorem dX8_cellValue_107 : decode cX8_cellValue 107 = .ok (.iconst 0, 1) := by decide +kernel
theorem dX8_cellValue_108 : decode cX8_cellValue 108 = .ok (.ireturn, 1) := by decide +kernel
theorem dX8_cellValue_109 : decode cX8_cellValue 109 = .ok (.aload_n 0, 1) := by decide +kernel
theorem dX8_cellValue_110 : decode cX8_cellValue 110 = .ok (.getfield 7, 3) := by decide +kernel
theorem dX8_cellValue_113 : decode cX8_cellValue 113 = .ok (.sipush 512, 3) := by decide +kernel
theorem dX8_cellValue_116 : decode cX8_cellValue 116 = .ok (.laload, 1) := by decide +kernel
theorem dX8_cellValue_117 : decode cX8_cellValue 117 = .ok (.iload_n 1, 1) := by decide +kernel
theorem dX8_cellValue_118 : decode cX8_cellValue 118 = .ok (.invokestatic 91, 3) := by decide +kernel
theorem dX8_cellValue_121 : decode cX8_cellValue 121 = .ok (.ifCond .eq 7, 3) := by decide +kernel
theorem dX8_cellValue_124 : decode cX8_cellValue 124 = .ok (.iconst 1, 1) := by decide +kernel
theorem dX8_cellValue_125 : decode cX8_cellValue 125 = .ok (.goto 4, 3) := by decide +kernel
theorem dX8_cellValue_128 : decode cX8_cellValue 128 = .ok (.iconst 0, 1) := by decide +kernel
theorem dX8_cellValue_129 : decode cX8_cellValue 129 = .ok (.ireturn, 1) := by decide +kernel
theorem dX8_cell_0 : decode cX8_cell 0 = .ok (.aload_n 0, 1) := by decide +kernel
theorem dX8_cell_1 : decode cX8_cell 1 = .ok (.aload_n 0, 1) := by decide +kernel
theorem dX8_cell_2 : decode cX8_cell 2 = .ok (.iload_n 1, 1) := by decide +kernel
theorem dX8_cell_3 : decode cX8_cell 3 = .ok (.invokevirtual 73, 3) := by decide +kernel
theorem dX8_cell_6 : decode cX8_cell 6 = .ok (.iload_n 2, 1) := by decide +kernel
theorem dX8_cell_7 : decode cX8_cell 7 = .ok (.i2l, 1) := by decide +kernel
theorem dX8_cell_8 : decode cX8_cell 8 = .ok (.lconst 0, 1) := by decide +kernel
theorem dX8_cell_9 : decode cX8_cell 9 = .ok (.ldc2_w 214, 3) := by decide +kernel
theorem dX8_cell_12 : decode cX8_cell 12 = .ok (.invokestatic 65, 3) := by decide +kernel
theorem dX8_cell_15 : decode cX8_cell 15 = .ok (.iconst 1, 1) := by decide +kernel
theorem dX8_cell_16 : decode cX8_cell 16 = .ok (.invokevirtual 183, 3) := by decide +kernel
theorem dX8_cell_19 : decode cX8_cell 19 = .ok (.ifCond .eq 12, 3) := by decide +kernel
theorem dX8_cell_22 : decode cX8_cell 22 = .ok (.aload_n 0, 1) := by decide +kernel
theorem dX8_cell_23 : decode cX8_cell 23 = .ok (.iload_n 1, 1) := by decide +kernel
theorem dX8_cell_24 : decode cX8_cell 24 = .ok (.iload_n 2, 1) := by decide +kernel
theorem dX8_cell_25 : decode cX8_cell 25 = .ok (.invokevirtual 216, 3) := by decide +kernel
theorem dX8_cell_28 : decode cX8_cell 28 = .ok (.goto 4, 3) := by decide +kernel
theorem dX8_cell_31 : decode cX8_cell 31 = .ok (.iconst 0, 1) := by decide +kernel
theorem dX8_cell_32 : decode cX8_cell 32 = .ok (.ireturn, 1) := by decide +kernel
theorem dX8_between_0 : decode cX8_between 0 = .ok (.aload_n 0, 1) := by decide +kernel
theorem dX8_between_1 : decode cX8_between 1 = .ok (.aload_n 0, 1) := by decide +kernel
theorem dX8_between_2 : decode cX8_between 2 = .ok (.iload_n 1, 1) := by decide +kernel
theorem dX8_between_3 : decode cX8_between 3 = .ok (.iload_n 2, 1) := by decide +kernel
theorem dX8_between_4 : decode cX8_between 4 = .ok (.invokevirtual 198, 3) := by decide +kernel
theorem dX8_between_7 : decode cX8_between 7 = .ok (.iconst 1, 1) := by decide +kernel
theorem dX8_between_8 : decode cX8_between 8 = .ok (.iconst 1, 1) := by decide +kernel
theorem dX8_between_9 : decode cX8_between 9 = .ok (.invokevirtual 183, 3) := by decide +kernel
theorem dX8_between_12 : decode cX8_between 12 = .ok (.ifCond .ne 5, 3) := by decide +kernel
theorem dX8_between_15 : decode cX8_between 15 = .ok (.iconst 0, 1) := by decide +kernel
theorem dX8_between_16 : decode cX8_between 16 = .ok (.ireturn, 1) := by decide +kernel
theorem dX8_between_17 : decode cX8_between 17 = .ok (.iload_n 3, 1) := by decide +kernel
theorem dX8_between_18 : decode cX8_between 18 = .ok (.ifCond .eq 12, 3) := by decide +kernel
theorem dX8_between_21 : decode cX8_between 21 = .ok (.aload_n 0, 1) := by decide +kernel
theorem dX8_between_22 : decode cX8_between 22 = .ok (.iload_n 1, 1) := by decide +kernel
theorem dX8_between_23 : decode cX8_between 23 = .ok (.iload_n 2, 1) := by decide +kernel
theorem dX8_between_24 : decode cX8_between 24 = .ok (.invokevirtual 84, 3) := by decide +kernel
theorem dX8_between_27 : decode cX8_between 27 = .ok (.goto 15, 3) := by decide +kernel
theorem dX8_between_30 : decode cX8_between 30 = .ok (.aload_n 0, 1) := by decide +kernel
theorem dX8_between_31 : decode cX8_between 31 = .ok (.getfield 7, 3) := by decide +kernel
theorem dX8_between_34 : decode cX8_between 34 = .ok (.aload_n 0, 1) := by decide +kernel
theorem dX8_between_35 : decode cX8_between 35 = .ok (.iload_n 1, 1) := by decide +kernel
theorem dX8_between_36 : decode cX8_between 36 = .ok (.iload_n 2, 1) := by decide +kernel
theorem dX8_between_37 : decode cX8_between 37 = .ok (.invokevirtual 81, 3) := by decide +kernel
theorem dX8_between_40 : decode cX8_between 40 = .ok (.laload, 1) := by decide +kernel
theorem dX8_between_41 : decode cX8_between 41 = .ok (.l2i, 1) := by decide +kernel
theorem dX8_between_42 : decode cX8_between 42 = .ok (.ireturn, 1) := by decide +kernel
theorem dX8_seaCells_0 : decode cX8_seaCells 0 = .ok (.iconst 0, 1) := by decide +kernel
theorem dX8_seaCells_1 : decode cX8_seaCells 1 = .ok (.istore_n 1, 1) := by decide +kernel
theorem dX8_seaCells_2 : decode cX8_seaCells 2 = .ok (.iconst 0, 1) := by decide +kernel
theorem dX8_seaCells_3 : decode cX8_seaCells 3 = .ok (.istore_n 2, 1) := by decide +kernel
theorem dX8_seaCells_4 : decode cX8_seaCells 4 = .ok (.iload_n 2, 1) := by decide +kernel
theorem dX8_seaCells_5 : decode cX8_seaCells 5 = .ok (.aload_n 0, 1) := by decide +kernel
theorem dX8_seaCells_6 : decode cX8_seaCells 6 = .ok (.invokevirtual 61, 3) := by decide +kernel
theorem dX8_seaCells_9 : decode cX8_seaCells 9 = .ok (.if_icmp .ge 33, 3) := by decide +kernel
theorem dX8_seaCells_12 : decode cX8_seaCells 12 = .ok (.iload_n 1, 1) := by decide +kernel
theorem dX8_seaCells_13 : decode cX8_seaCells 13 = .ok (.aload_n 0, 1) := by decide +kernel
theorem dX8_seaCells_14 : decode cX8_seaCells 14 = .ok (.getfield 7, 3) := by decide +kernel
theorem dX8_seaCells_17 : decode cX8_seaCells 17 = .ok (.bipush 116, 2) := by decide +kernel
theorem dX8_seaCells_19 : decode cX8_seaCells 19 = .ok (.iload_n 2, 1) := by decide +kernel
theorem dX8_seaCells_20 : decode cX8_seaCells 20 = .ok (.iadd, 1) := by decide +kernel
theorem dX8_seaCells_21 : decode cX8_seaCells 21 = .ok (.laload, 1) := by decide +kernel
theorem dX8_seaCells_22 : decode cX8_seaCells 22 = .ok (.ldc2_w 109, 3) := by decide +kernel
theorem dX8_seaCells_25 : decode cX8_seaCells 25 = .ok (.lcmp, 1) := by decide +kernel
theorem dX8_seaCells_26 : decode cX8_seaCells 26 = .ok (.ifCond .ne 7, 3) := by decide +kernel
theorem dX8_seaCells_29 : decode cX8_seaCells 29 = .ok (.iconst 1, 1) := by decide +kernel
theorem dX8_seaCells_30 : decode cX8_seaCells 30 = .ok (.goto 4, 3) := by decide +kernel
theorem dX8_seaCells_33 : decode cX8_seaCells 33 = .ok (.iconst 0, 1) := by decide +kernel
theorem dX8_seaCells_34 : decode cX8_seaCells 34 = .ok (.iadd, 1) := by decide +kernel
theorem dX8_seaCells_35 : decode cX8_seaCells 35 = .ok (.istore_n 1, 1) := by decide +kernel
theorem dX8_seaCells_36 : decode cX8_seaCells 36 = .ok (.iinc 2 1, 3) := by decide +kernel
theorem dX8_seaCells_39 : decode cX8_seaCells 39 = .ok (.goto (-35), 3) := by decide +kernel
theorem dX8_seaCells_42 : decode cX8_seaCells 42 = .ok (.iload_n 1, 1) := by decide +kernel
theorem dX8_seaCells_43 : decode cX8_seaCells 43 = .ok (.ireturn, 1) := by decide +kernel
theorem dX8_countOf_0 : decode cX8_countOf 0 = .ok (.iload_n 1, 1) := by decide +kernel
theorem dX8_countOf_1 : decode cX8_countOf 1 = .ok (.tableswitch 83 0 5 #[39, 47, 55, 64, 73, 78], 39) := by decide +kernel
theorem dX8_countOf_40 : decode cX8_countOf 40 = .ok (.aload_n 0, 1) := by decide +kernel
theorem dX8_countOf_41 : decode cX8_countOf 41 = .ok (.getfield 7, 3) := by decide +kernel
theorem dX8_countOf_44 : decode cX8_countOf 44 = .ok (.iconst 0, 1) := by decide +kernel
theorem dX8_countOf_45 : decode cX8_countOf 45 = .ok (.laload, 1) := by decide +kernel
theorem dX8_countOf_46 : decode cX8_countOf 46 = .ok (.l2i, 1) := by decide +kernel
theorem dX8_countOf_47 : decode cX8_countOf 47 = .ok (.ireturn, 1) := by decide +kernel
theorem dX8_countOf_48 : decode cX8_countOf 48 = .ok (.aload_n 0, 1) := by decide +kernel
theorem dX8_countOf_49 : decode cX8_countOf 49 = .ok (.getfield 7, 3) := by decide +kernel
theorem dX8_countOf_52 : decode cX8_countOf 52 = .ok (.iconst 1, 1) := by decide +kernel
theorem dX8_countOf_53 : decode cX8_countOf 53 = .ok (.laload, 1) := by decide +kernel
theorem dX8_countOf_54 : decode cX8_countOf 54 = .ok (.l2i, 1) := by decide +kernel
theorem dX8_countOf_55 : decode cX8_countOf 55 = .ok (.ireturn, 1) := by decide +kernel
theorem dX8_countOf_56 : decode cX8_countOf 56 = .ok (.aload_n 0, 1) := by decide +kernel
theorem dX8_countOf_57 : decode cX8_countOf 57 = .ok (.getfield 7, 3) := by decide +kernel
theorem dX8_countOf_60 : decode cX8_countOf 60 = .ok (.bipush 6, 2) := by decide +kernel
theorem dX8_countOf_62 : decode cX8_countOf 62 = .ok (.laload, 1) := by decide +kernel
theorem dX8_countOf_63 : decode cX8_countOf 63 = .ok (.l2i, 1) := by decide +kernel
theorem dX8_countOf_64 : decode cX8_countOf 64 = .ok (.ireturn, 1) := by decide +kernel
theorem dX8_countOf_65 : decode cX8_countOf 65 = .ok (.aload_n 0, 1) := by decide +kernel
theorem dX8_countOf_66 : decode cX8_countOf 66 = .ok (.invokevirtual 152, 3) := by decide +kernel
theorem dX8_countOf_69 : decode cX8_countOf 69 = .ok (.aload_n 0, 1) := by decide +kernel
theorem dX8_countOf_70 : decode cX8_countOf 70 = .ok (.getfield 149, 3) := by decide +kernel
theorem dX8_countOf_73 : decode cX8_countOf 73 = .ok (.ireturn, 1) := by decide +kernel
theorem dX8_countOf_74 : decode cX8_countOf 74 = .ok (.aload_n 0, 1) := by decide +kernel
theorem dX8_countOf_75 : decode cX8_countOf 75 = .ok (.invokevirtual 219, 3) := by decide +kernel
theorem dX8_countOf_78 : decode cX8_countOf 78 = .ok (.ireturn, 1) := by decide +kernel
theorem dX8_countOf_79 : decode cX8_countOf 79 = .ok (.aload_n 0, 1) := by decide +kernel
theorem dX8_countOf_80 : decode cX8_countOf 80 = .ok (.invokevirtual 222, 3) := by decide +kernel
theorem dX8_countOf_83 : decode cX8_countOf 83 = .ok (.ireturn, 1) := by decide +kernel
theorem dX8_countOf_84 : decode cX8_countOf 84 = .ok (.iconst 0, 1) := by decide +kernel
theorem dX8_countOf_85 : decode cX8_countOf 85 = .ok (.istore_n 2, 1) := by decide +kernel
theorem dX8_countOf_86 : decode cX8_countOf 86 = .ok (.iconst 0, 1) := by decide +kernel
theorem dX8_countOf_87 : decode cX8_countOf 87 = .ok (.istore_n 3, 1) := by decide +kernel
theorem dX8_countOf_88 : decode cX8_countOf 88 = .ok (.iload_n 3, 1) := by decide +kernel
theorem dX8_countOf_89 : decode cX8_countOf 89 = .ok (.bipush 72, 2) := by decide +kernel
theorem dX8_countOf_91 : decode cX8_countOf 91 = .ok (.if_icmp .ge 40, 3) := by decide +kernel
theorem dX8_countOf_94 : decode cX8_countOf 94 = .ok (.iload_n 2, 1) := by decide +kernel
theorem dX8_countOf_95 : decode cX8_countOf 95 = .ok (.aload_n 0, 1) := by decide +kernel
theorem dX8_countOf_96 : decode cX8_countOf 96 = .ok (.getfield 7, 3) := by decide +kernel
theorem dX8_countOf_99 : decode cX8_countOf 99 = .ok (.sipush 440, 3) := by decide +kernel
theorem dX8_countOf_102 : decode cX8_countOf 102 = .ok (.iload_n 3, 1) := by decide +kernel
theorem dX8_countOf_103 : decode cX8_countOf 103 = .ok (.iadd, 1) := by decide +kernel
theorem dX8_countOf_104 : decode cX8_countOf 104 = .ok (.laload, 1) := by decide +kernel
theorem dX8_countOf_105 : decode cX8_countOf 105 = .ok (.lconst 1, 1) := by decide +kernel
theorem dX8_countOf_106 : decode cX8_countOf 106 = .ok (.lcmp, 1) := by decide +kernel
theorem dX8_countOf_107 : decode cX8_countOf 107 = .ok (.ifCond .ne 15, 3) := by decide +kernel
theorem dX8_countOf_110 : decode cX8_countOf 110 = .ok (.aload_n 0, 1) := by decide +kernel
theorem dX8_countOf_111 : decode cX8_countOf 111 = .ok (.iload_n 3, 1) := by decide +kernel
theorem dX8_countOf_112 : decode cX8_countOf 112 = .ok (.invokevirtual 136, 3) := by decide +kernel
theorem dX8_countOf_115 : decode cX8_countOf 115 = .ok (.ifCond .eq 7, 3) := by decide +kernel
theorem dX8_countOf_118 : decode cX8_countOf 118 = .ok (.iconst 1, 1) := by decide +kernel
theorem dX8_countOf_119 : decode cX8_countOf 119 = .ok (.goto 4, 3) := by decide +kernel
theorem dX8_countOf_122 : decode cX8_countOf 122 = .ok (.iconst 0, 1) := by decide +kernel
theorem dX8_countOf_123 : decode cX8_countOf 123 = .ok (.iadd, 1) := by decide +kernel
theorem dX8_countOf_124 : decode cX8_countOf 124 = .ok (.istore_n 2, 1) := by decide +kernel
theorem dX8_countOf_125 : decode cX8_countOf 125 = .ok (.iinc 3 1, 3) := by decide +kernel
theorem dX8_countOf_128 : decode cX8_countOf 128 = .ok (.goto (-40), 3) := by decide +kernel
theorem dX8_countOf_131 : decode cX8_countOf 131 = .ok (.iload_n 2, 1) := by decide +kernel
theorem dX8_countOf_132 : decode cX8_countOf 132 = .ok (.ireturn, 1) := by decide +kernel
theorem dX8_count_0 : decode cX8_count 0 = .ok (.aload_n 0, 1) := by decide +kernel
theorem dX8_count_1 : decode cX8_count 1 = .ok (.iload_n 1, 1) := by decide +kernel
theorem dX8_count_2 : decode cX8_count 2 = .ok (.i2l, 1) := by decide +kernel
theorem dX8_count_3 : decode cX8_count 3 = .ok (.lconst 0, 1) := by decide +kernel
theorem dX8_count_4 : decode cX8_count 4 = .ok (.ldc2_w 181, 3) := by decide +kernel
theorem dX8_count_7 : decode cX8_count 7 = .ok (.invokestatic 65, 3) := by decide +kernel
theorem dX8_count_10 : decode cX8_count 10 = .ok (.iconst 1, 1) := by decide +kernel
theorem dX8_count_11 : decode cX8_count 11 = .ok (.iconst 1, 1) := by decide +kernel
theorem dX8_count_12 : decode cX8_count 12 = .ok (.invokevirtual 183, 3) := by decide +kernel
theorem dX8_count_15 : decode cX8_count 15 = .ok (.ifCond .eq 11, 3) := by decide +kernel
theorem dX8_count_18 : decode cX8_count 18 = .ok (.aload_n 0, 1) := by decide +kernel
theorem dX8_count_19 : decode cX8_count 19 = .ok (.iload_n 1, 1) := by decide +kernel
theorem dX8_count_20 : decode cX8_count 20 = .ok (.invokevirtual 225, 3) := by decide +kernel
theorem dX8_count_23 : decode cX8_count 23 = .ok (.goto 4, 3) := by decide +kernel
theorem dX8_count_26 : decode cX8_count 26 = .ok (.iconst 0, 1) := by decide +kernel
theorem dX8_count_27 : decode cX8_count 27 = .ok (.ireturn, 1) := by decide +kernel
theorem dX8_pour_0 : decode cX8_pour 0 = .ok (.aload_n 0, 1) := by decide +kernel
theorem dX8_pour_1 : decode cX8_pour 1 = .ok (.aload_n 0, 1) := by decide +kernel
theorem dX8_pour_2 : decode cX8_pour 2 = .ok (.iload_n 1, 1) := by decide +kernel
theorem dX8_pour_3 : decode cX8_pour 3 = .ok (.invokevirtual 73, 3) := by decide +kernel
theorem dX8_pour_6 : decode cX8_pour 6 = .ok (.iload_n 2, 1) := by decide +kernel
theorem dX8_pour_7 : decode cX8_pour 7 = .ok (.i2l, 1) := by decide +kernel
theorem dX8_pour_8 : decode cX8_pour 8 = .ok (.lconst 0, 1) := by decide +kernel
theorem dX8_pour_9 : decode cX8_pour 9 = .ok (.ldc2_w 228, 3) := by decide +kernel
theorem dX8_pour_12 : decode cX8_pour 12 = .ok (.invokestatic 65, 3) := by decide +kernel
theorem dX8_pour_15 : decode cX8_pour 15 = .ok (.aload_n 0, 1) := by decide +kernel
theorem dX8_pour_16 : decode cX8_pour 16 = .ok (.invokevirtual 230, 3) := by decide +kernel
theorem dX8_pour_19 : decode cX8_pour 19 = .ok (.iload_n 2, 1) := by decide +kernel
theorem dX8_pour_20 : decode cX8_pour 20 = .ok (.i2l, 1) := by decide +kernel
theorem dX8_pour_21 : decode cX8_pour 21 = .ok (.ladd, 1) := by decide +kernel
theorem dX8_pour_22 : decode cX8_pour 22 = .ok (.ldc2_w 234, 3) := by decide +kernel
theorem dX8_pour_25 : decode cX8_pour 25 = .ok (.lcmp, 1) := by decide +kernel
theorem dX8_pour_26 : decode cX8_pour 26 = .ok (.ifCond .gt 7, 3) := by decide +kernel
theorem dX8_pour_29 : decode cX8_pour 29 = .ok (.iconst 1, 1) := by decide +kernel
theorem dX8_pour_30 : decode cX8_pour 30 = .ok (.goto 4, 3) := by decide +kernel
theorem dX8_pour_33 : decode cX8_pour 33 = .ok (.iconst 0, 1) := by decide +kernel
theorem dX8_pour_34 : decode cX8_pour 34 = .ok (.invokevirtual 183, 3) := by decide +kernel
theorem dX8_pour_37 : decode cX8_pour 37 = .ok (.ifCond .ne 5, 3) := by decide +kernel
theorem dX8_pour_40 : decode cX8_pour 40 = .ok (.iconst 0, 1) := by decide +kernel
theorem dX8_pour_41 : decode cX8_pour 41 = .ok (.ireturn, 1) := by decide +kernel
theorem dX8_pour_42 : decode cX8_pour 42 = .ok (.aload_n 0, 1) := by decide +kernel
theorem dX8_pour_43 : decode cX8_pour 43 = .ok (.invokevirtual 187, 3) := by decide +kernel
theorem dX8_pour_46 : decode cX8_pour 46 = .ok (.aload_n 0, 1) := by decide +kernel
theorem dX8_pour_47 : decode cX8_pour 47 = .ok (.getfield 7, 3) := by decide +kernel
theorem dX8_pour_50 : decode cX8_pour 50 = .ok (.iconst 3, 1) := by decide +kernel
theorem dX8_pour_51 : decode cX8_pour 51 = .ok (.laload, 1) := by decide +kernel
theorem dX8_pour_52 : decode cX8_pour 52 = .ok (.lstore_n 3, 1) := by decide +kernel
theorem dX8_pour_53 : decode cX8_pour 53 = .ok (.aload_n 0, 1) := by decide +kernel
theorem dX8_pour_54 : decode cX8_pour 54 = .ok (.getfield 7, 3) := by decide +kernel
theorem dX8_pour_57 : decode cX8_pour 57 = .ok (.iconst 5, 1) := by decide +kernel
theorem dX8_pour_58 : decode cX8_pour 58 = .ok (.dup2, 1) := by decide +kernel
theorem dX8_pour_59 : decode cX8_pour 59 = .ok (.laload, 1) := by decide +kernel
theorem dX8_pour_60 : decode cX8_pour 60 = .ok (.iload_n 2, 1) := by decide +kernel
theorem dX8_pour_61 : decode cX8_pour 61 = .ok (.i2l, 1) := by decide +kernel
theorem dX8_pour_62 : decode cX8_pour 62 = .ok (.ladd, 1) := by decide +kernel
theorem dX8_pour_63 : decode cX8_pour 63 = .ok (.lastore, 1) := by decide +kernel
theorem dX8_pour_64 : decode cX8_pour 64 = .ok (.aload_n 0, 1) := by decide +kernel
theorem dX8_pour_65 : decode cX8_pour 65 = .ok (.iload_n 1, 1) := by decide +kernel
theorem dX8_pour_66 : decode cX8_pour 66 = .ok (.iload_n 2, 1) := by decide +kernel
theorem dX8_pour_67 : decode cX8_pour 67 = .ok (.i2l, 1) := by decide +kernel
theorem dX8_pour_68 : decode cX8_pour 68 = .ok (.invokevirtual 177, 3) := by decide +kernel
theorem dX8_pour_71 : decode cX8_pour 71 = .ok (.aload_n 0, 1) := by decide +kernel
theorem dX8_pour_72 : decode cX8_pour 72 = .ok (.getfield 7, 3) := by decide +kernel
theorem dX8_pour_75 : decode cX8_pour 75 = .ok (.iconst 3, 1) := by decide +kernel
theorem dX8_pour_76 : decode cX8_pour 76 = .ok (.laload, 1) := by decide +kernel
theorem dX8_pour_77 : decode cX8_pour 77 = .ok (.lload_n 3, 1) := by decide +kernel
theorem dX8_pour_78 : decode cX8_pour 78 = .ok (.lsub, 1) := by decide +kernel
theorem dX8_pour_79 : decode cX8_pour 79 = .ok (.l2i, 1) := by decide +kernel
theorem dX8_pour_80 : decode cX8_pour 80 = .ok (.ireturn, 1) := by decide +kernel
theorem dX8_rain_0 : decode cX8_rain 0 = .ok (.aload_n 0, 1) := by decide +kernel
theorem dX8_rain_1 : decode cX8_rain 1 = .ok (.iload_n 1, 1) := by decide +kernel
theorem dX8_rain_2 : decode cX8_rain 2 = .ok (.i2l, 1) := by decide +kernel
theorem dX8_rain_3 : decode cX8_rain 3 = .ok (.lconst 0, 1) := by decide +kernel
theorem dX8_rain_4 : decode cX8_rain 4 = .ok (.ldc2_w 236, 3) := by decide +kernel
theorem dX8_rain_7 : decode cX8_rain 7 = .ok (.invokestatic 65, 3) := by decide +kernel
theorem dX8_rain_10 : decode cX8_rain 10 = .ok (.aload_n 0, 1) := by decide +kernel
theorem dX8_rain_11 : decode cX8_rain 11 = .ok (.invokevirtual 230, 3) := by decide +kernel
theorem dX8_rain_14 : decode cX8_rain 14 = .ok (.iload_n 1, 1) := by decide +kernel
theorem dX8_rain_15 : decode cX8_rain 15 = .ok (.i2l, 1) := by decide +kernel
theorem dX8_rain_16 : decode cX8_rain 16 = .ok (.aload_n 0, 1) := by decide +kernel
theorem dX8_rain_17 : decode cX8_rain 17 = .ok (.invokevirtual 61, 3) := by decide +kernel
theorem dX8_rain_20 : decode cX8_rain 20 = .ok (.i2l, 1) := by decide +kernel
theorem dX8_rain_21 : decode cX8_rain 21 = .ok (.lmul, 1) := by decide +kernel
theorem dX8_rain_22 : decode cX8_rain 22 = .ok (.ladd, 1) := by decide +kernel
theorem dX8_rain_23 : decode cX8_rain 23 = .ok (.ldc2_w 234, 3) := by decide +kernel
theorem dX8_rain_26 : decode cX8_rain 26 = .ok (.lcmp, 1) := by decide +kernel
theorem dX8_rain_27 : decode cX8_rain 27 = .ok (.ifCond .gt 7, 3) := by decide +kernel
theorem dX8_rain_30 : decode cX8_rain 30 = .ok (.iconst 1, 1) := by decide +kernel
theorem dX8_rain_31 : decode cX8_rain 31 = .ok (.goto 4, 3) := by decide +kernel
theorem dX8_rain_34 : decode cX8_rain 34 = .ok (.iconst 0, 1) := by decide +kernel
theorem dX8_rain_35 : decode cX8_rain 35 = .ok (.iconst 1, 1) := by decide +kernel
theorem dX8_rain_36 : decode cX8_rain 36 = .ok (.invokevirtual 183, 3) := by decide +kernel
theorem dX8_rain_39 : decode cX8_rain 39 = .ok (.ifCond .ne 5, 3) := by decide +kernel
theorem dX8_rain_42 : decode cX8_rain 42 = .ok (.iconst 0, 1) := by decide +kernel
theorem dX8_rain_43 : decode cX8_rain 43 = .ok (.ireturn, 1) := by decide +kernel
theorem dX8_rain_44 : decode cX8_rain 44 = .ok (.aload_n 0, 1) := by decide +kernel
theorem dX8_rain_45 : decode cX8_rain 45 = .ok (.invokevirtual 187, 3) := by decide +kernel
theorem dX8_rain_48 : decode cX8_rain 48 = .ok (.aload_n 0, 1) := by decide +kernel
theorem dX8_rain_49 : decode cX8_rain 49 = .ok (.getfield 7, 3) := by decide +kernel
theorem dX8_rain_52 : decode cX8_rain 52 = .ok (.iconst 3, 1) := by decide +kernel
theorem dX8_rain_53 : decode cX8_rain 53 = .ok (.laload, 1) := by decide +kernel
theorem dX8_rain_54 : decode cX8_rain 54 = .ok (.lstore_n 2, 1) := by decide +kernel
theorem dX8_rain_55 : decode cX8_rain 55 = .ok (.iconst 0, 1) := by decide +kernel
theorem dX8_rain_56 : decode cX8_rain 56 = .ok (.istore 4, 2) := by decide +kernel
theorem dX8_rain_58 : decode cX8_rain 58 = .ok (.iload 4, 2) := by decide +kernel
theorem dX8_rain_60 : decode cX8_rain 60 = .ok (.aload_n 0, 1) := by decide +kernel
theorem dX8_rain_61 : decode cX8_rain 61 = .ok (.invokevirtual 61, 3) := by decide +kernel
theorem dX8_rain_64 : decode cX8_rain 64 = .ok (.if_icmp .ge 28, 3) := by decide +kernel
theorem dX8_rain_67 : decode cX8_rain 67 = .ok (.aload_n 0, 1) := by decide +kernel
theorem dX8_rain_68 : decode cX8_rain 68 = .ok (.getfield 7, 3) := by decide +kernel
theorem dX8_rain_71 : decode cX8_rain 71 = .ok (.iconst 5, 1) := by decide +kernel
theorem dX8_rain_72 : decode cX8_rain 72 = .ok (.dup2, 1) := by decide +kernel
theorem dX8_rain_73 : decode cX8_rain 73 = .ok (.laload, 1) := by decide +kernel
theorem dX8_rain_74 : decode cX8_rain 74 = .ok (.iload_n 1, 1) := by decide +kernel
theorem dX8_rain_75 : decode cX8_rain 75 = .ok (.i2l, 1) := by decide +kernel
theorem dX8_rain_76 : decode cX8_rain 76 = .ok (.ladd, 1) := by decide +kernel
theorem dX8_rain_77 : decode cX8_rain 77 = .ok (.lastore, 1) := by decide +kernel
theorem dX8_rain_78 : decode cX8_rain 78 = .ok (.aload_n 0, 1) := by decide +kernel
theorem dX8_rain_79 : decode cX8_rain 79 = .ok (.iload 4, 2) := by decide +kernel
theorem dX8_rain_81 : decode cX8_rain 81 = .ok (.iload_n 1, 1) := by decide +kernel
theorem dX8_rain_82 : decode cX8_rain 82 = .ok (.i2l, 1) := by decide +kernel
theorem dX8_rain_83 : decode cX8_rain 83 = .ok (.invokevirtual 177, 3) := by decide +kernel
theorem dX8_rain_86 : decode cX8_rain 86 = .ok (.iinc 4 1, 3) := by decide +kernel
theorem dX8_rain_89 : decode cX8_rain 89 = .ok (.goto (-31), 3) := by decide +kernel
theorem dX8_rain_92 : decode cX8_rain 92 = .ok (.aload_n 0, 1) := by decide +kernel
theorem dX8_rain_93 : decode cX8_rain 93 = .ok (.getfield 7, 3) := by decide +kernel
theorem dX8_rain_96 : decode cX8_rain 96 = .ok (.iconst 3, 1) := by decide +kernel
theorem dX8_rain_97 : decode cX8_rain 97 = .ok (.laload, 1) := by decide +kernel
theorem dX8_rain_98 : decode cX8_rain 98 = .ok (.lload_n 2, 1) := by decide +kernel
theorem dX8_rain_99 : decode cX8_rain 99 = .ok (.lsub, 1) := by decide +kernel
theorem dX8_rain_100 : decode cX8_rain 100 = .ok (.l2i, 1) := by decide +kernel
theorem dX8_rain_101 : decode cX8_rain 101 = .ok (.ireturn, 1) := by decide +kernel
theorem dX8_evaporates_0 : decode cX8_evaporates 0 = .ok (.aload_n 0, 1) := by decide +kernel
theorem dX8_evaporates_1 : decode cX8_evaporates 1 = .ok (.invokevirtual 152, 3) := by decide +kernel
theorem dX8_evaporates_4 : decode cX8_evaporates 4 = .ok (.aload_n 0, 1) := by decide +kernel
theorem dX8_evaporates_5 : decode cX8_evaporates 5 = .ok (.getfield 149, 3) := by decide +kernel
theorem dX8_evaporates_8 : decode cX8_evaporates 8 = .ok (.istore_n 1, 1) := by decide +kernel
theorem dX8_evaporates_9 : decode cX8_evaporates 9 = .ok (.iconst 0, 1) := by decide +kernel
theorem dX8_evaporates_10 : decode cX8_evaporates 10 = .ok (.istore_n 2, 1) := by decide +kernel
theorem dX8_evaporates_11 : decode cX8_evaporates 11 = .ok (.iload_n 2, 1) := by decide +kernel
theorem dX8_evaporates_12 : decode cX8_evaporates 12 = .ok (.iload_n 1, 1) := by decide +kernel
theorem dX8_evaporates_13 : decode cX8_evaporates 13 = .ok (.if_icmp .ge 78, 3) := by decide +kernel
theorem dX8_evaporates_16 : decode cX8_evaporates 16 = .ok (.aload_n 0, 1) := by decide +kernel
theorem dX8_evaporates_17 : decode cX8_evaporates 17 = .ok (.aload_n 0, 1) := by decide +kernel
theorem dX8_evaporates_18 : decode cX8_evaporates 18 = .ok (.getfield 7, 3) := by decide +kernel
theorem dX8_evaporates_21 : decode cX8_evaporates 21 = .ok (.sipush 152, 3) := by decide +kernel
theorem dX8_evaporates_24 : decode cX8_evaporates 24 = .ok (.aload_n 0, 1) := by decide +kernel
theorem dX8_evaporates_25 : decode cX8_evaporates 25 = .ok (.getfield 29, 3) := by decide +kernel
theorem dX8_evaporates_28 : decode cX8_evaporates 28 = .ok (.iload_n 2, 1) := by decide +kernel
theorem dX8_evaporates_29 : decode cX8_evaporates 29 = .ok (.iaload, 1) := by decide +kernel
theorem dX8_evaporates_30 : decode cX8_evaporates 30 = .ok (.iadd, 1) := by decide +kernel
theorem dX8_evaporates_31 : decode cX8_evaporates 31 = .ok (.laload, 1) := by decide +kernel
theorem dX8_evaporates_32 : decode cX8_evaporates 32 = .ok (.invokevirtual 168, 3) := by decide +kernel
theorem dX8_evaporates_35 : decode cX8_evaporates 35 = .ok (.i2l, 1) := by decide +kernel
theorem dX8_evaporates_36 : decode cX8_evaporates 36 = .ok (.lstore_n 3, 1) := by decide +kernel
theorem dX8_evaporates_37 : decode cX8_evaporates 37 = .ok (.aload_n 0, 1) := by decide +kernel
theorem dX8_evaporates_38 : decode cX8_evaporates 38 = .ok (.getfield 7, 3) := by decide +kernel
theorem dX8_evaporates_41 : decode cX8_evaporates 41 = .ok (.sipush 224, 3) := by decide +kernel
theorem dX8_evaporates_44 : decode cX8_evaporates 44 = .ok (.aload_n 0, 1) := by decide +kernel
theorem dX8_evaporates_45 : decode cX8_evaporates 45 = .ok (.getfield 29, 3) := by decide +kernel
theorem dX8_evaporates_48 : decode cX8_evaporates 48 = .ok (.iload_n 2, 1) := by decide +kernel
theorem dX8_evaporates_49 : decode cX8_evaporates 49 = .ok (.iaload, 1) := by decide +kernel
theorem dX8_evaporates_50 : decode cX8_evaporates 50 = .ok (.iadd, 1) := by decide +kernel
theorem dX8_evaporates_51 : decode cX8_evaporates 51 = .ok (.laload, 1) := by decide +kernel
theorem dX8_evaporates_52 : decode cX8_evaporates 52 = .ok (.lstore 5, 2) := by decide +kernel
theorem dX8_evaporates_54 : decode cX8_evaporates 54 = .ok (.aload_n 0, 1) := by decide +kernel
theorem dX8_evaporates_55 : decode cX8_evaporates 55 = .ok (.getfield 38, 3) := by decide +kernel
theorem dX8_evaporates_58 : decode cX8_evaporates 58 = .ok (.iload_n 2, 1) := by decide +kernel
theorem dX8_evaporates_59 : decode cX8_evaporates 59 = .ok (.aload_n 0, 1) := by decide +kernel
theorem dX8_evaporates_60 : decode cX8_evaporates 60 = .ok (.getfield 29, 3) := by decide +kernel
theorem dX8_evaporates_63 : decode cX8_evaporates 63 = .ok (.iload_n 2, 1) := by decide +kernel
theorem dX8_evaporates_64 : decode cX8_evaporates 64 = .ok (.iaload, 1) := by decide +kernel
theorem dX8_evaporates_65 : decode cX8_evaporates 65 = .ok (.iastore, 1) := by decide +kernel
theorem dX8_evaporates_66 : decode cX8_evaporates 66 = .ok (.aload_n 0, 1) := by decide +kernel
theorem dX8_evaporates_67 : decode cX8_evaporates 67 = .ok (.getfield 41, 3) := by decide +kernel
theorem dX8_evaporates_70 : decode cX8_evaporates 70 = .ok (.iload_n 2, 1) := by decide +kernel
theorem dX8_evaporates_71 : decode cX8_evaporates 71 = .ok (.lload_n 3, 1) := by decide +kernel
theorem dX8_evaporates_72 : decode cX8_evaporates 72 = .ok (.lload 5, 2) := by decide +kernel
theorem dX8_evaporates_74 : decode cX8_evaporates 74 = .ok (.lcmp, 1) := by decide +kernel
theorem dX8_evaporates_75 : decode cX8_evaporates 75 = .ok (.ifCond .ge 7, 3) := by decide +kernel
theorem dX8_evaporates_78 : decode cX8_evaporates 78 = .ok (.lload_n 3, 1) := by decide +kernel
theorem dX8_evaporates_79 : decode cX8_evaporates 79 = .ok (.goto 5, 3) := by decide +kernel
theorem dX8_evaporates_82 : decode cX8_evaporates 82 = .ok (.lload 5, 2) := by decide +kernel
theorem dX8_evaporates_84 : decode cX8_evaporates 84 = .ok (.lastore, 1) := by decide +kernel
theorem dX8_evaporates_85 : decode cX8_evaporates 85 = .ok (.iinc 2 1, 3) := by decide +kernel
theorem dX8_evaporates_88 : decode cX8_evaporates 88 = .ok (.goto (-77), 3) := by decide +kernel
theorem dX8_evaporates_91 : decode cX8_evaporates 91 = .ok (.iconst 0, 1) := by decide +kernel
theorem dX8_evaporates_92 : decode cX8_evaporates 92 = .ok (.istore_n 2, 1) := by decide +kernel
theorem dX8_evaporates_93 : decode cX8_evaporates 93 = .ok (.iload_n 2, 1) := by decide +kernel
theorem dX8_evaporates_94 : decode cX8_evaporates 94 = .ok (.iload_n 1, 1) := by decide +kernel
theorem dX8_evaporates_95 : decode cX8_evaporates 95 = .ok (.if_icmp .ge 25, 3) := by decide +kernel
theorem dX8_evaporates_98 : decode cX8_evaporates 98 = .ok (.aload_n 0, 1) := by decide +kernel
theorem dX8_evaporates_99 : decode cX8_evaporates 99 = .ok (.aload_n 0, 1) := by decide +kernel
theorem dX8_evaporates_100 : decode cX8_evaporates 100 = .ok (.getfield 38, 3) := by decide +kernel
theorem dX8_evaporates_103 : decode cX8_evaporates 103 = .ok (.iload_n 2, 1) := by decide +kernel
theorem dX8_evaporates_104 : decode cX8_evaporates 104 = .ok (.iaload, 1) := by decide +kernel
theorem dX8_evaporates_105 : decode cX8_evaporates 105 = .ok (.aload_n 0, 1) := by decide +kernel
theorem dX8_evaporates_106 : decode cX8_evaporates 106 = .ok (.getfield 41, 3) := by decide +kernel
theorem dX8_evaporates_109 : decode cX8_evaporates 109 = .ok (.iload_n 2, 1) := by decide +kernel
theorem dX8_evaporates_110 : decode cX8_evaporates 110 = .ok (.laload, 1) := by decide +kernel
theorem dX8_evaporates_111 : decode cX8_evaporates 111 = .ok (.invokevirtual 238, 3) := by decide +kernel
theorem dX8_evaporates_114 : decode cX8_evaporates 114 = .ok (.iinc 2 1, 3) := by decide +kernel
theorem dX8_evaporates_117 : decode cX8_evaporates 117 = .ok (.goto (-24), 3) := by decide +kernel
theorem dX8_evaporates_120 : decode cX8_evaporates 120 = .ok (.return_, 1) := by decide +kernel
theorem dX8_evaporate_0 : decode cX8_evaporate 0 = .ok (.aload_n 0, 1) := by decide +kernel
theorem dX8_evaporate_1 : decode cX8_evaporate 1 = .ok (.iload_n 1, 1) := by decide +kernel
theorem dX8_evaporate_2 : decode cX8_evaporate 2 = .ok (.i2l, 1) := by decide +kernel
theorem dX8_evaporate_3 : decode cX8_evaporate 3 = .ok (.lconst 0, 1) := by decide +kernel
theorem dX8_evaporate_4 : decode cX8_evaporate 4 = .ok (.ldc2_w 241, 3) := by decide +kernel
theorem dX8_evaporate_7 : decode cX8_evaporate 7 = .ok (.invokestatic 65, 3) := by decide +kernel
theorem dX8_evaporate_10 : decode cX8_evaporate 10 = .ok (.iconst 1, 1) := by decide +kernel
theorem dX8_evaporate_11 : decode cX8_evaporate 11 = .ok (.iconst 1, 1) := by decide +kernel
theorem dX8_evaporate_12 : decode cX8_evaporate 12 = .ok (.invokevirtual 183, 3) := by decide +kernel
theorem dX8_evaporate_15 : decode cX8_evaporate 15 = .ok (.ifCond .ne 5, 3) := by decide +kernel
theorem dX8_evaporate_18 : decode cX8_evaporate 18 = .ok (.iconst 0, 1) := by decide +kernel
theorem dX8_evaporate_19 : decode cX8_evaporate 19 = .ok (.ireturn, 1) := by decide +kernel
theorem dX8_evaporate_20 : decode cX8_evaporate 20 = .ok (.aload_n 0, 1) := by decide +kernel
theorem dX8_evaporate_21 : decode cX8_evaporate 21 = .ok (.invokevirtual 187, 3) := by decide +kernel
theorem dX8_evaporate_24 : decode cX8_evaporate 24 = .ok (.aload_n 0, 1) := by decide +kernel
theorem dX8_evaporate_25 : decode cX8_evaporate 25 = .ok (.getfield 7, 3) := by decide +kernel
theorem dX8_evaporate_28 : decode cX8_evaporate 28 = .ok (.iconst 4, 1) := by decide +kernel
theorem dX8_evaporate_29 : decode cX8_evaporate 29 = .ok (.laload, 1) := by decide +kernel
theorem dX8_evaporate_30 : decode cX8_evaporate 30 = .ok (.lstore_n 2, 1) := by decide +kernel
theorem dX8_evaporate_31 : decode cX8_evaporate 31 = .ok (.iconst 0, 1) := by decide +kernel
theorem dX8_evaporate_32 : decode cX8_evaporate 32 = .ok (.istore 4, 2) := by decide +kernel
theorem dX8_evaporate_34 : decode cX8_evaporate 34 = .ok (.iload 4, 2) := by decide +kernel
theorem dX8_evaporate_36 : decode cX8_evaporate 36 = .ok (.iload_n 1, 1) := by decide +kernel
theorem dX8_evaporate_37 : decode cX8_evaporate 37 = .ok (.if_icmp .ge 13, 3) := by decide +kernel
theorem dX8_evaporate_40 : decode cX8_evaporate 40 = .ok (.aload_n 0, 1) := by decide +kernel
theorem dX8_evaporate_41 : decode cX8_evaporate 41 = .ok (.invokevirtual 243, 3) := by decide +kernel
theorem dX8_evaporate_44 : decode cX8_evaporate 44 = .ok (.iinc 4 1, 3) := by decide +kernel
theorem dX8_evaporate_47 : decode cX8_evaporate 47 = .ok (.goto (-13), 3) := by decide +kernel
theorem dX8_evaporate_50 : decode cX8_evaporate 50 = .ok (.aload_n 0, 1) := by decide +kernel
theorem dX8_evaporate_51 : decode cX8_evaporate 51 = .ok (.getfield 7, 3) := by decide +kernel
theorem dX8_evaporate_54 : decode cX8_evaporate 54 = .ok (.iconst 4, 1) := by decide +kernel
theorem dX8_evaporate_55 : decode cX8_evaporate 55 = .ok (.laload, 1) := by decide +kernel
theorem dX8_evaporate_56 : decode cX8_evaporate 56 = .ok (.lload_n 2, 1) := by decide +kernel
theorem dX8_evaporate_57 : decode cX8_evaporate 57 = .ok (.lsub, 1) := by decide +kernel
theorem dX8_evaporate_58 : decode cX8_evaporate 58 = .ok (.l2i, 1) := by decide +kernel
theorem dX8_evaporate_59 : decode cX8_evaporate 59 = .ok (.ireturn, 1) := by decide +kernel
theorem dX8_take_0 : decode cX8_take 0 = .ok (.aload_n 0, 1) := by decide +kernel
theorem dX8_take_1 : decode cX8_take 1 = .ok (.iload_n 1, 1) := by decide +kernel
theorem dX8_take_2 : decode cX8_take 2 = .ok (.invokevirtual 246, 3) := by decide +kernel
theorem dX8_take_5 : decode cX8_take 5 = .ok (.istore_n 3, 1) := by decide +kernel
theorem dX8_take_6 : decode cX8_take 6 = .ok (.aload_n 0, 1) := by decide +kernel
theorem dX8_take_7 : decode cX8_take 7 = .ok (.iload_n 3, 1) := by decide +kernel
theorem dX8_take_8 : decode cX8_take 8 = .ok (.iload_n 3, 1) := by decide +kernel
theorem dX8_take_9 : decode cX8_take 9 = .ok (.ifCond .eq 39, 3) := by decide +kernel
theorem dX8_take_12 : decode cX8_take 12 = .ok (.iload_n 2, 1) := by decide +kernel
theorem dX8_take_13 : decode cX8_take 13 = .ok (.i2l, 1) := by decide +kernel
theorem dX8_take_14 : decode cX8_take 14 = .ok (.lconst 0, 1) := by decide +kernel
theorem dX8_take_15 : decode cX8_take 15 = .ok (.aload_n 0, 1) := by decide +kernel
theorem dX8_take_16 : decode cX8_take 16 = .ok (.getfield 7, 3) := by decide +kernel
theorem dX8_take_19 : decode cX8_take 19 = .ok (.sipush 224, 3) := by decide +kernel
theorem dX8_take_22 : decode cX8_take 22 = .ok (.aload_n 0, 1) := by decide +kernel
theorem dX8_take_23 : decode cX8_take 23 = .ok (.getfield 29, 3) := by decide +kernel
theorem dX8_take_26 : decode cX8_take 26 = .ok (.iload_n 3, 1) := by decide +kernel
theorem dX8_take_27 : decode cX8_take 27 = .ok (.ifCond .eq 7, 3) := by decide +kernel
theorem dX8_take_30 : decode cX8_take 30 = .ok (.iload_n 1, 1) := by decide +kernel
theorem dX8_take_31 : decode cX8_take 31 = .ok (.goto 4, 3) := by decide +kernel
theorem dX8_take_34 : decode cX8_take 34 = .ok (.iconst 0, 1) := by decide +kernel
theorem dX8_take_35 : decode cX8_take 35 = .ok (.iaload, 1) := by decide +kernel
theorem dX8_take_36 : decode cX8_take 36 = .ok (.iadd, 1) := by decide +kernel
theorem dX8_take_37 : decode cX8_take 37 = .ok (.laload, 1) := by decide +kernel
theorem dX8_take_38 : decode cX8_take 38 = .ok (.invokestatic 65, 3) := by decide +kernel
theorem dX8_take_41 : decode cX8_take 41 = .ok (.ifCond .eq 7, 3) := by decide +kernel
theorem dX8_take_44 : decode cX8_take 44 = .ok (.iconst 1, 1) := by decide +kernel
theorem dX8_take_45 : decode cX8_take 45 = .ok (.goto 4, 3) := by decide +kernel
theorem dX8_take_48 : decode cX8_take 48 = .ok (.iconst 0, 1) := by decide +kernel
theorem dX8_take_49 : decode cX8_take 49 = .ok (.iconst 1, 1) := by decide +kernel
theorem dX8_take_50 : decode cX8_take 50 = .ok (.invokevirtual 183, 3) := by decide +kernel
theorem dX8_take_53 : decode cX8_take 53 = .ok (.ifCond .ne 5, 3) := by decide +kernel
theorem dX8_take_56 : decode cX8_take 56 = .ok (.iconst 0, 1) := by decide +kernel
theorem dX8_take_57 : decode cX8_take 57 = .ok (.ireturn, 1) := by decide +kernel
theorem dX8_take_58 : decode cX8_take 58 = .ok (.aload_n 0, 1) := by decide +kernel
theorem dX8_take_59 : decode cX8_take 59 = .ok (.invokevirtual 187, 3) := by decide +kernel
theorem dX8_take_62 : decode cX8_take 62 = .ok (.aload_n 0, 1) := by decide +kernel
theorem dX8_take_63 : decode cX8_take 63 = .ok (.aload_n 0, 1) := by decide +kernel
theorem dX8_take_64 : decode cX8_take 64 = .ok (.getfield 29, 3) := by decide +kernel
theorem dX8_take_67 : decode cX8_take 67 = .ok (.iload_n 1, 1) := by decide +kernel
theorem dX8_take_68 : decode cX8_take 68 = .ok (.iaload, 1) := by decide +kernel
theorem dX8_take_69 : decode cX8_take 69 = .ok (.iload_n 2, 1) := by decide +kernel
theorem dX8_take_70 : decode cX8_take 70 = .ok (.i2l, 1) := by decide +kernel
theorem dX8_take_71 : decode cX8_take 71 = .ok (.invokevirtual 238, 3) := by decide +kernel
theorem dX8_take_74 : decode cX8_take 74 = .ok (.aload_n 0, 1) := by decide +kernel
theorem dX8_take_75 : decode cX8_take 75 = .ok (.invokevirtual 152, 3) := by decide +kernel
theorem dX8_take_78 : decode cX8_take 78 = .ok (.aload_n 0, 1) := by decide +kernel
theorem dX8_take_79 : decode cX8_take 79 = .ok (.getfield 149, 3) := by decide +kernel
theorem dX8_take_82 : decode cX8_take 82 = .ok (.ireturn, 1) := by decide +kernel
theorem dX8_balanceOf_0 : decode cX8_balanceOf 0 = .ok (.iload_n 1, 1) := by decide +kernel
theorem dX8_balanceOf_1 : decode cX8_balanceOf 1 = .ok (.ifCond .ne 12, 3) := by decide +kernel
theorem dX8_balanceOf_4 : decode cX8_balanceOf 4 = .ok (.aload_n 0, 1) := by decide +kernel
theorem dX8_balanceOf_5 : decode cX8_balanceOf 5 = .ok (.getfield 7, 3) := by decide +kernel
theorem dX8_balanceOf_8 : decode cX8_balanceOf 8 = .ok (.iconst 5, 1) := by decide +kernel
theorem dX8_balanceOf_9 : decode cX8_balanceOf 9 = .ok (.laload, 1) := by decide +kernel
theorem dX8_balanceOf_10 : decode cX8_balanceOf 10 = .ok (.goto 35, 3) := by decide +kernel
theorem dX8_balanceOf_13 : decode cX8_balanceOf 13 = .ok (.iload_n 1, 1) := by decide +kernel
theorem dX8_balanceOf_14 : decode cX8_balanceOf 14 = .ok (.iconst 1, 1) := by decide +kernel
theorem dX8_balanceOf_15 : decode cX8_balanceOf 15 = .ok (.if_icmp .ne 10, 3) := by decide +kernel
theorem dX8_balanceOf_18 : decode cX8_balanceOf 18 = .ok (.aload_n 0, 1) := by decide +kernel
theorem dX8_balanceOf_19 : decode cX8_balanceOf 19 = .ok (.invokevirtual 230, 3) := by decide +kernel
theorem dX8_balanceOf_22 : decode cX8_balanceOf 22 = .ok (.goto 23, 3) := by decide +kernel
theorem dX8_balanceOf_25 : decode cX8_balanceOf 25 = .ok (.iload_n 1, 1) := by decide +kernel
theorem dX8_balanceOf_26 : decode cX8_balanceOf 26 = .ok (.iconst 2, 1) := by decide +kernel
theorem dX8_balanceOf_27 : decode cX8_balanceOf 27 = .ok (.if_icmp .ne 12, 3) := by decide +kernel
theorem dX8_balanceOf_30 : decode cX8_balanceOf 30 = .ok (.aload_n 0, 1) := by decide +kernel
theorem dX8_balanceOf_31 : decode cX8_balanceOf 31 = .ok (.getfield 7, 3) := by decide +kernel
theorem dX8_balanceOf_34 : decode cX8_balanceOf 34 = .ok (.iconst 3, 1) := by decide +kernel
theorem dX8_balanceOf_35 : decode cX8_balanceOf 35 = .ok (.laload, 1) := by decide +kernel
theorem dX8_balanceOf_36 : decode cX8_balanceOf 36 = .ok (.goto 9, 3) := by decide +kernel
theorem dX8_balanceOf_39 : decode cX8_balanceOf 39 = .ok (.aload_n 0, 1) := by decide +kernel
theorem dX8_balanceOf_40 : decode cX8_balanceOf 40 = .ok (.getfield 7, 3) := by decide +kernel
theorem dX8_balanceOf_43 : decode cX8_balanceOf 43 = .ok (.iconst 4, 1) := by decide +kernel
theorem dX8_balanceOf_44 : decode cX8_balanceOf 44 = .ok (.laload, 1) := by decide +kernel
theorem dX8_balanceOf_45 : decode cX8_balanceOf 45 = .ok (.lreturn, 1) := by decide +kernel
theorem dX8_balance_0 : decode cX8_balance 0 = .ok (.aload_n 0, 1) := by decide +kernel
theorem dX8_balance_1 : decode cX8_balance 1 = .ok (.iload_n 1, 1) := by decide +kernel
theorem dX8_balance_2 : decode cX8_balance 2 = .ok (.i2l, 1) := by decide +kernel
theorem dX8_balance_3 : decode cX8_balance 3 = .ok (.lconst 0, 1) := by decide +kernel
theorem dX8_balance_4 : decode cX8_balance 4 = .ok (.ldc2_w 249, 3) := by decide +kernel
theorem dX8_balance_7 : decode cX8_balance 7 = .ok (.invokestatic 65, 3) := by decide +kernel
theorem dX8_balance_10 : decode cX8_balance 10 = .ok (.iconst 1, 1) := by decide +kernel
theorem dX8_balance_11 : decode cX8_balance 11 = .ok (.iconst 1, 1) := by decide +kernel
theorem dX8_balance_12 : decode cX8_balance 12 = .ok (.invokevirtual 183, 3) := by decide +kernel
theorem dX8_balance_15 : decode cX8_balance 15 = .ok (.ifCond .eq 11, 3) := by decide +kernel
theorem dX8_balance_18 : decode cX8_balance 18 = .ok (.aload_n 0, 1) := by decide +kernel
theorem dX8_balance_19 : decode cX8_balance 19 = .ok (.iload_n 1, 1) := by decide +kernel
theorem dX8_balance_20 : decode cX8_balance 20 = .ok (.invokevirtual 251, 3) := by decide +kernel
theorem dX8_balance_23 : decode cX8_balance 23 = .ok (.goto 4, 3) := by decide +kernel
theorem dX8_balance_26 : decode cX8_balance 26 = .ok (.lconst 0, 1) := by decide +kernel
theorem dX8_balance_27 : decode cX8_balance 27 = .ok (.lreturn, 1) := by decide +kernel
theorem dX8_basinsOf_0 : decode cX8_basinsOf 0 = .ok (.iconst 0, 1) := by decide +kernel
theorem dX8_basinsOf_1 : decode cX8_basinsOf 1 = .ok (.istore_n 3, 1) := by decide +kernel
theorem dX8_basinsOf_2 : decode cX8_basinsOf 2 = .ok (.iconst 0, 1) := by decide +kernel
theorem dX8_basinsOf_3 : decode cX8_basinsOf 3 = .ok (.istore 4, 2) := by decide +kernel
theorem dX8_basinsOf_5 : decode cX8_basinsOf 5 = .ok (.iload 4, 2) := by decide +kernel
theorem dX8_basinsOf_7 : decode cX8_basinsOf 7 = .ok (.aload_n 0, 1) := by decide +kernel
theorem dX8_basinsOf_8 : decode cX8_basinsOf 8 = .ok (.invokevirtual 61, 3) := by decide +kernel
theorem dX8_basinsOf_11 : decode cX8_basinsOf 11 = .ok (.if_icmp .ge 122, 3) := by decide +kernel
theorem dX8_basinsOf_14 : decode cX8_basinsOf 14 = .ok (.lload_n 1, 1) := by decide +kernel
theorem dX8_basinsOf_15 : decode cX8_basinsOf 15 = .ok (.iload 4, 2) := by decide +kernel
theorem dX8_basinsOf_17 : decode cX8_basinsOf 17 = .ok (.invokestatic 91, 3) := by decide +kernel
theorem dX8_basinsOf_20 : decode cX8_basinsOf 20 = .ok (.ifCond .eq 23, 3) := by decide +kernel
theorem dX8_basinsOf_23 : decode cX8_basinsOf 23 = .ok (.aload_n 0, 1) := by decide +kernel
theorem dX8_basinsOf_24 : decode cX8_basinsOf 24 = .ok (.getfield 7, 3) := by decide +kernel
theorem dX8_basinsOf_27 : decode cX8_basinsOf 27 = .ok (.sipush 512, 3) := by decide +kernel
theorem dX8_basinsOf_30 : decode cX8_basinsOf 30 = .ok (.laload, 1) := by decide +kernel
theorem dX8_basinsOf_31 : decode cX8_basinsOf 31 = .ok (.iload 4, 2) := by decide +kernel
theorem dX8_basinsOf_33 : decode cX8_basinsOf 33 = .ok (.invokestatic 91, 3) := by decide +kernel
theorem dX8_basinsOf_36 : decode cX8_basinsOf 36 = .ok (.ifCond .eq 7, 3) := by decide +kernel
theorem dX8_basinsOf_39 : decode cX8_basinsOf 39 = .ok (.iconst 1, 1) := by decide +kernel
theorem dX8_basinsOf_40 : decode cX8_basinsOf 40 = .ok (.goto 4, 3) := by decide +kernel
theorem dX8_basinsOf_43 : decode cX8_basinsOf 43 = .ok (.iconst 0, 1) := by decide +kernel
theorem dX8_basinsOf_44 : decode cX8_basinsOf 44 = .ok (.istore 5, 2) := by decide +kernel
theorem dX8_basinsOf_46 : decode cX8_basinsOf 46 = .ok (.iconst 0, 1) := by decide +kernel
theorem dX8_basinsOf_47 : decode cX8_basinsOf 47 = .ok (.istore 6, 2) := by decide +kernel
theorem dX8_basinsOf_49 : decode cX8_basinsOf 49 = .ok (.iload 6, 2) := by decide +kernel
theorem dX8_basinsOf_51 : decode cX8_basinsOf 51 = .ok (.iload 4, 2) := by decide +kernel
theorem dX8_basinsOf_53 : decode cX8_basinsOf 53 = .ok (.if_icmp .ge 61, 3) := by decide +kernel
theorem dX8_basinsOf_56 : decode cX8_basinsOf 56 = .ok (.iload 5, 2) := by decide +kernel
theorem dX8_basinsOf_58 : decode cX8_basinsOf 58 = .ok (.ifCond .eq 47, 3) := by decide +kernel
theorem dX8_basinsOf_61 : decode cX8_basinsOf 61 = .ok (.aload_n 0, 1) := by decide +kernel
theorem dX8_basinsOf_62 : decode cX8_basinsOf 62 = .ok (.getfield 7, 3) := by decide +kernel
theorem dX8_basinsOf_65 : decode cX8_basinsOf 65 = .ok (.sipush 512, 3) := by decide +kernel
theorem dX8_basinsOf_68 : decode cX8_basinsOf 68 = .ok (.laload, 1) := by decide +kernel
theorem dX8_basinsOf_69 : decode cX8_basinsOf 69 = .ok (.iload 6, 2) := by decide +kernel
theorem dX8_basinsOf_71 : decode cX8_basinsOf 71 = .ok (.invokestatic 91, 3) := by decide +kernel
theorem dX8_basinsOf_74 : decode cX8_basinsOf 74 = .ok (.ifCond .eq 27, 3) := by decide +kernel
theorem dX8_basinsOf_77 : decode cX8_basinsOf 77 = .ok (.aload_n 0, 1) := by decide +kernel
theorem dX8_basinsOf_78 : decode cX8_basinsOf 78 = .ok (.getfield 7, 3) := by decide +kernel
theorem dX8_basinsOf_81 : decode cX8_basinsOf 81 = .ok (.bipush 116, 2) := by decide +kernel
theorem dX8_basinsOf_83 : decode cX8_basinsOf 83 = .ok (.iload 6, 2) := by decide +kernel
theorem dX8_basinsOf_85 : decode cX8_basinsOf 85 = .ok (.iadd, 1) := by decide +kernel
theorem dX8_basinsOf_86 : decode cX8_basinsOf 86 = .ok (.laload, 1) := by decide +kernel
theorem dX8_basinsOf_87 : decode cX8_basinsOf 87 = .ok (.aload_n 0, 1) := by decide +kernel
theorem dX8_basinsOf_88 : decode cX8_basinsOf 88 = .ok (.getfield 7, 3) := by decide +kernel
theorem dX8_basinsOf_91 : decode cX8_basinsOf 91 = .ok (.bipush 116, 2) := by decide +kernel
theorem dX8_basinsOf_93 : decode cX8_basinsOf 93 = .ok (.iload 4, 2) := by decide +kernel
theorem dX8_basinsOf_95 : decode cX8_basinsOf 95 = .ok (.iadd, 1) := by decide +kernel
theorem dX8_basinsOf_96 : decode cX8_basinsOf 96 = .ok (.laload, 1) := by decide +kernel
theorem dX8_basinsOf_97 : decode cX8_basinsOf 97 = .ok (.lcmp, 1) := by decide +kernel
theorem dX8_basinsOf_98 : decode cX8_basinsOf 98 = .ok (.ifCond .eq 7, 3) := by decide +kernel
theorem dX8_basinsOf_101 : decode cX8_basinsOf 101 = .ok (.iconst 1, 1) := by decide +kernel
theorem dX8_basinsOf_102 : decode cX8_basinsOf 102 = .ok (.goto 4, 3) := by decide +kernel
theorem dX8_basinsOf_105 : decode cX8_basinsOf 105 = .ok (.iconst 0, 1) := by decide +kernel
theorem dX8_basinsOf_106 : decode cX8_basinsOf 106 = .ok (.istore 5, 2) := by decide +kernel
theorem dX8_basinsOf_108 : decode cX8_basinsOf 108 = .ok (.iinc 6 1, 3) := by decide +kernel
theorem dX8_basinsOf_111 : decode cX8_basinsOf 111 = .ok (.goto (-62), 3) := by decide +kernel
theorem dX8_basinsOf_114 : decode cX8_basinsOf 114 = .ok (.iload_n 3, 1) := by decide +kernel
theorem dX8_basinsOf_115 : decode cX8_basinsOf 115 = .ok (.iload 5, 2) := by decide +kernel
theorem dX8_basinsOf_117 : decode cX8_basinsOf 117 = .ok (.ifCond .eq 7, 3) := by decide +kernel
theorem dX8_basinsOf_120 : decode cX8_basinsOf 120 = .ok (.iconst 1, 1) := by decide +kernel
theorem dX8_basinsOf_121 : decode cX8_basinsOf 121 = .ok (.goto 4, 3) := by decide +kernel
theorem dX8_basinsOf_124 : decode cX8_basinsOf 124 = .ok (.iconst 0, 1) := by decide +kernel
theorem dX8_basinsOf_125 : decode cX8_basinsOf 125 = .ok (.iadd, 1) := by decide +kernel
theorem dX8_basinsOf_126 : decode cX8_basinsOf 126 = .ok (.istore_n 3, 1) := by decide +kernel
theorem dX8_basinsOf_127 : decode cX8_basinsOf 127 = .ok (.iinc 4 1, 3) := by decide +kernel
theorem dX8_basinsOf_130 : decode cX8_basinsOf 130 = .ok (.goto (-125), 3) := by decide +kernel
theorem dX8_basinsOf_133 : decode cX8_basinsOf 133 = .ok (.iload_n 3, 1) := by decide +kernel
theorem dX8_basinsOf_134 : decode cX8_basinsOf 134 = .ok (.ireturn, 1) := by decide +kernel
theorem dX8_lakeValue_0 : decode cX8_lakeValue 0 = .ok (.aload_n 0, 1) := by decide +kernel
theorem dX8_lakeValue_1 : decode cX8_lakeValue 1 = .ok (.invokevirtual 152, 3) := by decide +kernel
theorem dX8_lakeValue_4 : decode cX8_lakeValue 4 = .ok (.aload_n 0, 1) := by decide +kernel
theorem dX8_lakeValue_5 : decode cX8_lakeValue 5 = .ok (.getfield 29, 3) := by decide +kernel
theorem dX8_lakeValue_8 : decode cX8_lakeValue 8 = .ok (.iload_n 1, 1) := by decide +kernel
theorem dX8_lakeValue_9 : decode cX8_lakeValue 9 = .ok (.iaload, 1) := by decide +kernel
theorem dX8_lakeValue_10 : decode cX8_lakeValue 10 = .ok (.istore_n 3, 1) := by decide +kernel
theorem dX8_lakeValue_11 : decode cX8_lakeValue 11 = .ok (.aload_n 0, 1) := by decide +kernel
theorem dX8_lakeValue_12 : decode cX8_lakeValue 12 = .ok (.getfield 7, 3) := by decide +kernel
theorem dX8_lakeValue_15 : decode cX8_lakeValue 15 = .ok (.sipush 152, 3) := by decide +kernel
theorem dX8_lakeValue_18 : decode cX8_lakeValue 18 = .ok (.iload_n 3, 1) := by decide +kernel
theorem dX8_lakeValue_19 : decode cX8_lakeValue 19 = .ok (.iadd, 1) := by decide +kernel
theorem dX8_lakeValue_20 : decode cX8_lakeValue 20 = .ok (.laload, 1) := by decide +kernel
theorem dX8_lakeValue_21 : decode cX8_lakeValue 21 = .ok (.lstore 4, 2) := by decide +kernel
theorem dX8_lakeValue_23 : decode cX8_lakeValue 23 = .ok (.iload_n 2, 1) := by decide +kernel
theorem dX8_lakeValue_24 : decode cX8_lakeValue 24 = .ok (.tableswitch 108 0 9 #[56, 68, 75, 81, 87, 94, 108, 108, 108, 101], 56) := by decide +kernel
theorem dX8_lakeValue_80 : decode cX8_lakeValue 80 = .ok (.aload_n 0, 1) := by decide +kernel
theorem dX8_lakeValue_81 : decode cX8_lakeValue 81 = .ok (.getfield 7, 3) := by decide +kernel
theorem dX8_lakeValue_84 : decode cX8_lakeValue 84 = .ok (.sipush 224, 3) := by decide +kernel
theorem dX8_lakeValue_87 : decode cX8_lakeValue 87 = .ok (.iload_n 3, 1) := by decide +kernel
theorem dX8_lakeValue_88 : decode cX8_lakeValue 88 = .ok (.iadd, 1) := by decide +kernel
theorem dX8_lakeValue_89 : decode cX8_lakeValue 89 = .ok (.laload, 1) := by decide +kernel
theorem dX8_lakeValue_90 : decode cX8_lakeValue 90 = .ok (.l2i, 1) := by decide +kernel
theorem dX8_lakeValue_91 : decode cX8_lakeValue 91 = .ok (.ireturn, 1) := by decide +kernel
theorem dX8_lakeValue_92 : decode cX8_lakeValue 92 = .ok (.aload_n 0, 1) := by decide +kernel
theorem dX8_lakeValue_93 : decode cX8_lakeValue 93 = .ok (.iload_n 3, 1) := by decide +kernel
theorem dX8_lakeValue_94 : decode cX8_lakeValue 94 = .ok (.invokevirtual 127, 3) := by decide +kernel
theorem dX8_lakeValue_97 : decode cX8_lakeValue 97 = .ok (.l2i, 1) := by decide +kernel
theorem dX8_lakeValue_98 : decode cX8_lakeValue 98 = .ok (.ireturn, 1) := by decide +kernel
theorem dX8_lakeValue_99 : decode cX8_lakeValue 99 = .ok (.lload 4, 2) := by decide +kernel
theorem dX8_lakeValue_101 : decode cX8_lakeValue 101 = .ok (.invokestatic 111, 3) := by decide +kernel
theorem dX8_lakeValue_104 : decode cX8_lakeValue 104 = .ok (.ireturn, 1) := by decide +kernel
theorem dX8_lakeValue_105 : decode cX8_lakeValue 105 = .ok (.lload 4, 2) := by decide +kernel
theorem dX8_lakeValue_107 : decode cX8_lakeValue 107 = .ok (.invokestatic 254, 3) := by decide +kernel
theorem dX8_lakeValue_110 : decode cX8_lakeValue 110 = .ok (.ireturn, 1) := by decide +kernel
theorem dX8_lakeValue_111 : decode cX8_lakeValue 111 = .ok (.aload_n 0, 1) := by decide +kernel
theorem dX8_lakeValue_112 : decode cX8_lakeValue 112 = .ok (.lload 4, 2) := by decide +kernel
theorem dX8_lakeValue_114 : decode cX8_lakeValue 114 = .ok (.invokevirtual 168, 3) := by decide +kernel
theorem dX8_lakeValue_117 : decode cX8_lakeValue 117 = .ok (.ireturn, 1) := by decide +kernel
theorem dX8_lakeValue_118 : decode cX8_lakeValue 118 = .ok (.aload_n 0, 1) := by decide +kernel
theorem dX8_lakeValue_119 : decode cX8_lakeValue 119 = .ok (.lload 4, 2) := by decide +kernel
theorem dX8_lakeValue_121 : decode cX8_lakeValue 121 = .ok (.invokevirtual 257, 3) := by decide +kernel
theorem dX8_lakeValue_124 : decode cX8_lakeValue 124 = .ok (.ireturn, 1) := by decide +kernel
theorem dX8_lakeValue_125 : decode cX8_lakeValue 125 = .ok (.aload_n 0, 1) := by decide +kernel
theorem dX8_lakeValue_126 : decode cX8_lakeValue 126 = .ok (.iload_n 3, 1) := by decide +kernel
theorem dX8_lakeValue_127 : decode cX8_lakeValue 127 = .ok (.invokevirtual 142, 3) := by decide +kernel
theorem dX8_lakeValue_130 : decode cX8_lakeValue 130 = .ok (.l2i, 1) := by decide +kernel
theorem dX8_lakeValue_131 : decode cX8_lakeValue 131 = .ok (.ireturn, 1) := by decide +kernel
theorem dX8_lakeValue_132 : decode cX8_lakeValue 132 = .ok (.aload_n 0, 1) := by decide +kernel
theorem dX8_lakeValue_133 : decode cX8_lakeValue 133 = .ok (.iload_n 3, 1) := by decide +kernel
theorem dX8_lakeValue_134 : decode cX8_lakeValue 134 = .ok (.invokevirtual 123, 3) := by decide +kernel
theorem dX8_lakeValue_137 : decode cX8_lakeValue 137 = .ok (.iload_n 2, 1) := by decide +kernel
theorem dX8_lakeValue_138 : decode cX8_lakeValue 138 = .ok (.bipush 6, 2) := by decide +kernel
theorem dX8_lakeValue_140 : decode cX8_lakeValue 140 = .ok (.if_icmp .ne 10, 3) := by decide +kernel
theorem dX8_lakeValue_143 : decode cX8_lakeValue 143 = .ok (.aload_n 0, 1) := by decide +kernel
theorem dX8_lakeValue_144 : decode cX8_lakeValue 144 = .ok (.getfield 114, 3) := by decide +kernel
theorem dX8_lakeValue_147 : decode cX8_lakeValue 147 = .ok (.goto 20, 3) := by decide +kernel
theorem dX8_lakeValue_150 : decode cX8_lakeValue 150 = .ok (.iload_n 2, 1) := by decide +kernel
theorem dX8_lakeValue_151 : decode cX8_lakeValue 151 = .ok (.bipush 7, 2) := by decide +kernel
theorem dX8_lakeValue_153 : decode cX8_lakeValue 153 = .ok (.if_icmp .ne 10, 3) := by decide +kernel
theorem dX8_lakeValue_156 : decode cX8_lakeValue 156 = .ok (.aload_n 0, 1) := by decide +kernel
theorem dX8_lakeValue_157 : decode cX8_lakeValue 157 = .ok (.getfield 117, 3) := by decide +kernel
theorem dX8_lakeValue_160 : decode cX8_lakeValue 160 = .ok (.goto 7, 3) := by decide +kernel
theorem dX8_lakeValue_163 : decode cX8_lakeValue 163 = .ok (.aload_n 0, 1) := by decide +kernel
theorem dX8_lakeValue_164 : decode cX8_lakeValue 164 = .ok (.getfield 120, 3) := by decide +kernel
theorem dX8_lakeValue_167 : decode cX8_lakeValue 167 = .ok (.ireturn, 1) := by decide +kernel
theorem dX8_lake_0 : decode cX8_lake 0 = .ok (.aload_n 0, 1) := by decide +kernel
theorem dX8_lake_1 : decode cX8_lake 1 = .ok (.aload_n 0, 1) := by decide +kernel
theorem dX8_lake_2 : decode cX8_lake 2 = .ok (.iload_n 1, 1) := by decide +kernel
theorem dX8_lake_3 : decode cX8_lake 3 = .ok (.invokevirtual 246, 3) := by decide +kernel
theorem dX8_lake_6 : decode cX8_lake 6 = .ok (.iload_n 2, 1) := by decide +kernel
theorem dX8_lake_7 : decode cX8_lake 7 = .ok (.i2l, 1) := by decide +kernel
theorem dX8_lake_8 : decode cX8_lake 8 = .ok (.lconst 0, 1) := by decide +kernel
theorem dX8_lake_9 : decode cX8_lake 9 = .ok (.ldc2_w 260, 3) := by decide +kernel
theorem dX8_lake_12 : decode cX8_lake 12 = .ok (.invokestatic 65, 3) := by decide +kernel
theorem dX8_lake_15 : decode cX8_lake 15 = .ok (.iconst 1, 1) := by decide +kernel
theorem dX8_lake_16 : decode cX8_lake 16 = .ok (.invokevirtual 183, 3) := by decide +kernel
theorem dX8_lake_19 : decode cX8_lake 19 = .ok (.ifCond .eq 12, 3) := by decide +kernel
theorem dX8_lake_22 : decode cX8_lake 22 = .ok (.aload_n 0, 1) := by decide +kernel
theorem dX8_lake_23 : decode cX8_lake 23 = .ok (.iload_n 1, 1) := by decide +kernel
theorem dX8_lake_24 : decode cX8_lake 24 = .ok (.iload_n 2, 1) := by decide +kernel
theorem dX8_lake_25 : decode cX8_lake 25 = .ok (.invokevirtual 262, 3) := by decide +kernel
theorem dX8_lake_28 : decode cX8_lake 28 = .ok (.goto 4, 3) := by decide +kernel
theorem dX8_lake_31 : decode cX8_lake 31 = .ok (.iconst 0, 1) := by decide +kernel
theorem dX8_lake_32 : decode cX8_lake 32 = .ok (.ireturn, 1) := by decide +kernel
theorem dX8_lakeCells_0 : decode cX8_lakeCells 0 = .ok (.aload_n 0, 1) := by decide +kernel
theorem dX8_lakeCells_1 : decode cX8_lakeCells 1 = .ok (.aload_n 0, 1) := by decide +kernel
theorem dX8_lakeCells_2 : decode cX8_lakeCells 2 = .ok (.iload_n 1, 1) := by decide +kernel
theorem dX8_lakeCells_3 : decode cX8_lakeCells 3 = .ok (.invokevirtual 246, 3) := by decide +kernel
theorem dX8_lakeCells_6 : decode cX8_lakeCells 6 = .ok (.iconst 1, 1) := by decide +kernel
theorem dX8_lakeCells_7 : decode cX8_lakeCells 7 = .ok (.iconst 1, 1) := by decide +kernel
theorem dX8_lakeCells_8 : decode cX8_lakeCells 8 = .ok (.invokevirtual 183, 3) := by decide +kernel
theorem dX8_lakeCells_11 : decode cX8_lakeCells 11 = .ok (.ifCond .eq 21, 3) := by decide +kernel
theorem dX8_lakeCells_14 : decode cX8_lakeCells 14 = .ok (.aload_n 0, 1) := by decide +kernel
theorem dX8_lakeCells_15 : decode cX8_lakeCells 15 = .ok (.getfield 7, 3) := by decide +kernel
theorem dX8_lakeCells_18 : decode cX8_lakeCells 18 = .ok (.sipush 152, 3) := by decide +kernel
theorem dX8_lakeCells_21 : decode cX8_lakeCells 21 = .ok (.aload_n 0, 1) := by decide +kernel
theorem dX8_lakeCells_22 : decode cX8_lakeCells 22 = .ok (.getfield 29, 3) := by decide +kernel
theorem dX8_lakeCells_25 : decode cX8_lakeCells 25 = .ok (.iload_n 1, 1) := by decide +kernel
theorem dX8_lakeCells_26 : decode cX8_lakeCells 26 = .ok (.iaload, 1) := by decide +kernel
theorem dX8_lakeCells_27 : decode cX8_lakeCells 27 = .ok (.iadd, 1) := by decide +kernel
theorem dX8_lakeCells_28 : decode cX8_lakeCells 28 = .ok (.laload, 1) := by decide +kernel
theorem dX8_lakeCells_29 : decode cX8_lakeCells 29 = .ok (.goto 4, 3) := by decide +kernel
theorem dX8_lakeCells_32 : decode cX8_lakeCells 32 = .ok (.lconst 0, 1) := by decide +kernel
theorem dX8_lakeCells_33 : decode cX8_lakeCells 33 = .ok (.lreturn, 1) := by decide +kernel
theorem dX8_levelPart_0 : decode cX8_levelPart 0 = .ok (.aload_n 0, 1) := by decide +kernel
theorem dX8_levelPart_1 : decode cX8_levelPart 1 = .ok (.invokevirtual 152, 3) := by decide +kernel
theorem dX8_levelPart_4 : decode cX8_levelPart 4 = .ok (.aload_n 0, 1) := by decide +kernel
theorem dX8_levelPart_5 : decode cX8_levelPart 5 = .ok (.aload_n 0, 1) := by decide +kernel
theorem dX8_levelPart_6 : decode cX8_levelPart 6 = .ok (.getfield 29, 3) := by decide +kernel
theorem dX8_levelPart_9 : decode cX8_levelPart 9 = .ok (.iload_n 1, 1) := by decide +kernel
theorem dX8_levelPart_10 : decode cX8_levelPart 10 = .ok (.iaload, 1) := by decide +kernel
theorem dX8_levelPart_11 : decode cX8_levelPart 11 = .ok (.invokevirtual 162, 3) := by decide +kernel
theorem dX8_levelPart_14 : decode cX8_levelPart 14 = .ok (.aload_n 0, 1) := by decide +kernel
theorem dX8_levelPart_15 : decode cX8_levelPart 15 = .ok (.getfield 159, 3) := by decide +kernel
theorem dX8_levelPart_18 : decode cX8_levelPart 18 = .ok (.aload_n 0, 1) := by decide +kernel
theorem dX8_levelPart_19 : decode cX8_levelPart 19 = .ok (.getfield 155, 3) := by decide +kernel
theorem dX8_levelPart_22 : decode cX8_levelPart 22 = .ok (.invokestatic 265, 3) := by decide +kernel
theorem dX8_levelPart_25 : decode cX8_levelPart 25 = .ok (.lstore_n 3, 1) := by decide +kernel
theorem dX8_levelPart_26 : decode cX8_levelPart 26 = .ok (.iload_n 2, 1) := by decide +kernel
theorem dX8_levelPart_27 : decode cX8_levelPart 27 = .ok (.ifCond .ne 10, 3) := by decide +kernel
theorem dX8_levelPart_30 : decode cX8_levelPart 30 = .ok (.aload_n 0, 1) := by decide +kernel
theorem dX8_levelPart_31 : decode cX8_levelPart 31 = .ok (.getfield 159, 3) := by decide +kernel
theorem dX8_levelPart_34 : decode cX8_levelPart 34 = .ok (.goto 7, 3) := by decide +kernel
theorem dX8_levelPart_37 : decode cX8_levelPart 37 = .ok (.aload_n 0, 1) := by decide +kernel
theorem dX8_levelPart_38 : decode cX8_levelPart 38 = .ok (.getfield 155, 3) := by decide +kernel
theorem dX8_levelPart_41 : decode cX8_levelPart 41 = .ok (.lload_n 3, 1) := by decide +kernel
theorem dX8_levelPart_42 : decode cX8_levelPart 42 = .ok (.ldiv, 1) := by decide +kernel
theorem dX8_levelPart_43 : decode cX8_levelPart 43 = .ok (.l2i, 1) := by decide +kernel
theorem dX8_levelPart_44 : decode cX8_levelPart 44 = .ok (.ireturn, 1) := by decide +kernel
theorem dX8_level_0 : decode cX8_level 0 = .ok (.aload_n 0, 1) := by decide +kernel
theorem dX8_level_1 : decode cX8_level 1 = .ok (.aload_n 0, 1) := by decide +kernel
theorem dX8_level_2 : decode cX8_level 2 = .ok (.iload_n 1, 1) := by decide +kernel
theorem dX8_level_3 : decode cX8_level 3 = .ok (.invokevirtual 246, 3) := by decide +kernel
theorem dX8_level_6 : decode cX8_level 6 = .ok (.iload_n 2, 1) := by decide +kernel
theorem dX8_level_7 : decode cX8_level 7 = .ok (.i2l, 1) := by decide +kernel
theorem dX8_level_8 : decode cX8_level 8 = .ok (.lconst 0, 1) := by decide +kernel
theorem dX8_level_9 : decode cX8_level 9 = .ok (.lconst 1, 1) := by decide +kernel
theorem dX8_level_10 : decode cX8_level 10 = .ok (.invokestatic 65, 3) := by decide +kernel
theorem dX8_level_13 : decode cX8_level 13 = .ok (.iconst 1, 1) := by decide +kernel
theorem dX8_level_14 : decode cX8_level 14 = .ok (.invokevirtual 183, 3) := by decide +kernel
theorem dX8_level_17 : decode cX8_level 17 = .ok (.ifCond .eq 12, 3) := by decide +kernel
theorem dX8_level_20 : decode cX8_level 20 = .ok (.aload_n 0, 1) := by decide +kernel
theorem dX8_level_21 : decode cX8_level 21 = .ok (.iload_n 1, 1) := by decide +kernel
theorem dX8_level_22 : decode cX8_level 22 = .ok (.iload_n 2, 1) := by decide +kernel
theorem dX8_level_23 : decode cX8_level 23 = .ok (.invokevirtual 269, 3) := by decide +kernel
theorem dX8_level_26 : decode cX8_level 26 = .ok (.goto 4, 3) := by decide +kernel
theorem dX8_level_29 : decode cX8_level 29 = .ok (.iconst 0, 1) := by decide +kernel
theorem dX8_level_30 : decode cX8_level 30 = .ok (.ireturn, 1) := by decide +kernel
theorem dX8_depth_0 : decode cX8_depth 0 = .ok (.aload_n 0, 1) := by decide +kernel
theorem dX8_depth_1 : decode cX8_depth 1 = .ok (.aload_n 0, 1) := by decide +kernel
theorem dX8_depth_2 : decode cX8_depth 2 = .ok (.iload_n 1, 1) := by decide +kernel
theorem dX8_depth_3 : decode cX8_depth 3 = .ok (.invokevirtual 73, 3) := by decide +kernel
theorem dX8_depth_6 : decode cX8_depth 6 = .ok (.iconst 1, 1) := by decide +kernel
theorem dX8_depth_7 : decode cX8_depth 7 = .ok (.iconst 1, 1) := by decide +kernel
theorem dX8_depth_8 : decode cX8_depth 8 = .ok (.invokevirtual 183, 3) := by decide +kernel
theorem dX8_depth_11 : decode cX8_depth 11 = .ok (.ifCond .eq 11, 3) := by decide +kernel
theorem dX8_depth_14 : decode cX8_depth 14 = .ok (.aload_n 0, 1) := by decide +kernel
theorem dX8_depth_15 : decode cX8_depth 15 = .ok (.iload_n 1, 1) := by decide +kernel
theorem dX8_depth_16 : decode cX8_depth 16 = .ok (.invokevirtual 165, 3) := by decide +kernel
theorem dX8_depth_19 : decode cX8_depth 19 = .ok (.ifCond .ne 5, 3) := by decide +kernel
theorem dX8_depth_22 : decode cX8_depth 22 = .ok (.dconst 0, 1) := by decide +kernel
theorem dX8_depth_23 : decode cX8_depth 23 = .ok (.dreturn, 1) := by decide +kernel
theorem dX8_depth_24 : decode cX8_depth 24 = .ok (.aload_n 0, 1) := by decide +kernel
theorem dX8_depth_25 : decode cX8_depth 25 = .ok (.aload_n 0, 1) := by decide +kernel
theorem dX8_depth_26 : decode cX8_depth 26 = .ok (.iload_n 1, 1) := by decide +kernel
theorem dX8_depth_27 : decode cX8_depth 27 = .ok (.invokevirtual 133, 3) := by decide +kernel
theorem dX8_depth_30 : decode cX8_depth 30 = .ok (.invokevirtual 162, 3) := by decide +kernel
theorem dX8_depth_33 : decode cX8_depth 33 = .ok (.aload_n 0, 1) := by decide +kernel
theorem dX8_depth_34 : decode cX8_depth 34 = .ok (.getfield 159, 3) := by decide +kernel
theorem dX8_depth_37 : decode cX8_depth 37 = .ok (.aload_n 0, 1) := by decide +kernel
theorem dX8_depth_38 : decode cX8_depth 38 = .ok (.getfield 155, 3) := by decide +kernel
theorem dX8_depth_41 : decode cX8_depth 41 = .ok (.aload_n 0, 1) := by decide +kernel
theorem dX8_depth_42 : decode cX8_depth 42 = .ok (.iload_n 1, 1) := by decide +kernel
theorem dX8_depth_43 : decode cX8_depth 43 = .ok (.invokevirtual 87, 3) := by decide +kernel
theorem dX8_depth_46 : decode cX8_depth 46 = .ok (.i2l, 1) := by decide +kernel
theorem dX8_depth_47 : decode cX8_depth 47 = .ok (.lmul, 1) := by decide +kernel
theorem dX8_depth_48 : decode cX8_depth 48 = .ok (.lsub, 1) := by decide +kernel
theorem dX8_depth_49 : decode cX8_depth 49 = .ok (.lstore_n 2, 1) := by decide +kernel
theorem dX8_depth_50 : decode cX8_depth 50 = .ok (.lload_n 2, 1) := by decide +kernel
theorem dX8_depth_51 : decode cX8_depth 51 = .ok (.aload_n 0, 1) := by decide +kernel
theorem dX8_depth_52 : decode cX8_depth 52 = .ok (.getfield 155, 3) := by decide +kernel
theorem dX8_depth_55 : decode cX8_depth 55 = .ok (.invokestatic 265, 3) := by decide +kernel
theorem dX8_depth_58 : decode cX8_depth 58 = .ok (.lstore 4, 2) := by decide +kernel
theorem dX8_depth_60 : decode cX8_depth 60 = .ok (.lload_n 2, 1) := by decide +kernel
theorem dX8_depth_61 : decode cX8_depth 61 = .ok (.lload 4, 2) := by decide +kernel
theorem dX8_depth_63 : decode cX8_depth 63 = .ok (.ldiv, 1) := by decide +kernel
theorem dX8_depth_64 : decode cX8_depth 64 = .ok (.l2d, 1) := by decide +kernel
theorem dX8_depth_65 : decode cX8_depth 65 = .ok (.aload_n 0, 1) := by decide +kernel
theorem dX8_depth_66 : decode cX8_depth 66 = .ok (.getfield 155, 3) := by decide +kernel
theorem dX8_depth_69 : decode cX8_depth 69 = .ok (.lload 4, 2) := by decide +kernel
theorem dX8_depth_71 : decode cX8_depth 71 = .ok (.ldiv, 1) := by decide +kernel
theorem dX8_depth_72 : decode cX8_depth 72 = .ok (.l2d, 1) := by decide +kernel
theorem dX8_depth_73 : decode cX8_depth 73 = .ok (.ddiv, 1) := by decide +kernel
theorem dX8_depth_74 : decode cX8_depth 74 = .ok (.dreturn, 1) := by decide +kernel
theorem dX8_deepest_0 : decode cX8_deepest 0 = .ok (.aload_n 0, 1) := by decide +kernel
theorem dX8_deepest_1 : decode cX8_deepest 1 = .ok (.iconst 0, 1) := by decide +kernel
theorem dX8_deepest_2 : decode cX8_deepest 2 = .ok (.putfield 54, 3) := by decide +kernel
theorem dX8_deepest_5 : decode cX8_deepest 5 = .ok (.iconst (-1), 1) := by decide +kernel
theorem dX8_deepest_6 : decode cX8_deepest 6 = .ok (.istore_n 1, 1) := by decide +kernel
theorem dX8_deepest_7 : decode cX8_deepest 7 = .ok (.lconst 0, 1) := by decide +kernel
theorem dX8_deepest_8 : decode cX8_deepest 8 = .ok (.lstore_n 2, 1) := by decide +kernel
theorem dX8_deepest_9 : decode cX8_deepest 9 = .ok (.lconst 1, 1) := by decide +kernel
theorem dX8_deepest_10 : decode cX8_deepest 10 = .ok (.lstore 4, 2) := by decide +kernel
theorem dX8_deepest_12 : decode cX8_deepest 12 = .ok (.iconst 0, 1) := by decide +kernel
theorem dX8_deepest_13 : decode cX8_deepest 13 = .ok (.istore 6, 2) := by decide +kernel
theorem dX8_deepest_15 : decode cX8_deepest 15 = .ok (.iload 6, 2) := by decide +kernel
theorem dX8_deepest_17 : decode cX8_deepest 17 = .ok (.aload_n 0, 1) := by decide +kernel
theorem dX8_deepest_18 : decode cX8_deepest 18 = .ok (.invokevirtual 61, 3) := by decide +kernel
theorem dX8_deepest_21 : decode cX8_deepest 21 = .ok (.if_icmp .ge 79, 3) := by decide +kernel
theorem dX8_deepest_24 : decode cX8_deepest 24 = .ok (.aload_n 0, 1) := by decide +kernel
theorem dX8_deepest_25 : decode cX8_deepest 25 = .ok (.iload 6, 2) := by decide +kernel
theorem dX8_deepest_27 : decode cX8_deepest 27 = .ok (.invokevirtual 165, 3) := by decide +kernel
theorem dX8_deepest_30 : decode cX8_deepest 30 = .ok (.ifCond .eq 64, 3) := by decide +kernel
theorem dX8_deepest_33 : decode cX8_deepest 33 = .ok (.aload_n 0, 1) := by decide +kernel
theorem dX8_deepest_34 : decode cX8_deepest 34 = .ok (.aload_n 0, 1) := by decide +kernel
theorem dX8_deepest_35 : decode cX8_deepest 35 = .ok (.iload 6, 2) := by decide +kernel
theorem dX8_deepest_37 : decode cX8_deepest 37 = .ok (.invokevirtual 133, 3) := by decide +kernel
theorem dX8_deepest_40 : decode cX8_deepest 40 = .ok (.invokevirtual 162, 3) := by decide +kernel
theorem dX8_deepest_43 : decode cX8_deepest 43 = .ok (.aload_n 0, 1) := by decide +kernel
theorem dX8_deepest_44 : decode cX8_deepest 44 = .ok (.getfield 159, 3) := by decide +kernel
theorem dX8_deepest_47 : decode cX8_deepest 47 = .ok (.aload_n 0, 1) := by decide +kernel
theorem dX8_deepest_48 : decode cX8_deepest 48 = .ok (.getfield 155, 3) := by decide +kernel
theorem dX8_deepest_51 : decode cX8_deepest 51 = .ok (.aload_n 0, 1) := by decide +kernel
theorem dX8_deepest_52 : decode cX8_deepest 52 = .ok (.iload 6, 2) := by decide +kernel
theorem dX8_deepest_54 : decode cX8_deepest 54 = .ok (.invokevirtual 87, 3) := by decide +kernel
theorem dX8_deepest_57 : decode cX8_deepest 57 = .ok (.i2l, 1) := by decide +kernel
theorem dX8_deepest_58 : decode cX8_deepest 58 = .ok (.lmul, 1) := by decide +kernel
theorem dX8_deepest_59 : decode cX8_deepest 59 = .ok (.lsub, 1) := by decide +kernel
theorem dX8_deepest_60 : decode cX8_deepest 60 = .ok (.lstore 7, 2) := by decide +kernel
theorem dX8_deepest_62 : decode cX8_deepest 62 = .ok (.iload_n 1, 1) := by decide +kernel
theorem dX8_deepest_63 : decode cX8_deepest 63 = .ok (.iconst (-1), 1) := by decide +kernel
theorem dX8_deepest_64 : decode cX8_deepest 64 = .ok (.if_icmp .eq 18, 3) := by decide +kernel
theorem dX8_deepest_67 : decode cX8_deepest 67 = .ok (.lload 7, 2) := by decide +kernel
theorem dX8_deepest_69 : decode cX8_deepest 69 = .ok (.lload 4, 2) := by decide +kernel
theorem dX8_deepest_71 : decode cX8_deepest 71 = .ok (.lmul, 1) := by decide +kernel
theorem dX8_deepest_72 : decode cX8_deepest 72 = .ok (.lload_n 2, 1) := by decide +kernel
theorem dX8_deepest_73 : decode cX8_deepest 73 = .ok (.aload_n 0, 1) := by decide +kernel
theorem dX8_deepest_74 : decode cX8_deepest 74 = .ok (.getfield 155, 3) := by decide +kernel
theorem dX8_deepest_77 : decode cX8_deepest 77 = .ok (.lmul, 1) := by decide +kernel
theorem dX8_deepest_78 : decode cX8_deepest 78 = .ok (.lcmp, 1) := by decide +kernel
theorem dX8_deepest_79 : decode cX8_deepest 79 = .ok (.ifCond .le 15, 3) := by decide +kernel
theorem dX8_deepest_82 : decode cX8_deepest 82 = .ok (.iload 6, 2) := by decide +kernel
theorem dX8_deepest_84 : decode cX8_deepest 84 = .ok (.istore_n 1, 1) := by decide +kernel
theorem dX8_deepest_85 : decode cX8_deepest 85 = .ok (.lload 7, 2) := by decide +kernel
theorem dX8_deepest_87 : decode cX8_deepest 87 = .ok (.lstore_n 2, 1) := by decide +kernel
theorem dX8_deepest_88 : decode cX8_deepest 88 = .ok (.aload_n 0, 1) := by decide +kernel
theorem dX8_deepest_89 : decode cX8_deepest 89 = .ok (.getfield 155, 3) := by decide +kernel
theorem dX8_deepest_92 : decode cX8_deepest 92 = .ok (.lstore 4, 2) := by decide +kernel
theorem dX8_deepest_94 : decode cX8_deepest 94 = .ok (.iinc 6 1, 3) := by decide +kernel
theorem dX8_deepest_97 : decode cX8_deepest 97 = .ok (.goto (-82), 3) := by decide +kernel
theorem dX8_deepest_100 : decode cX8_deepest 100 = .ok (.iload_n 1, 1) := by decide +kernel
theorem dX8_deepest_101 : decode cX8_deepest 101 = .ok (.ireturn, 1) := by decide +kernel
theorem dX8_course_0 : decode cX8_course 0 = .ok (.aload_n 0, 1) := by decide +kernel
theorem dX8_course_1 : decode cX8_course 1 = .ok (.aload_n 0, 1) := by decide +kernel
theorem dX8_course_2 : decode cX8_course 2 = .ok (.iload_n 1, 1) := by decide +kernel
theorem dX8_course_3 : decode cX8_course 3 = .ok (.invokevirtual 73, 3) := by decide +kernel
theorem dX8_course_6 : decode cX8_course 6 = .ok (.iconst 1, 1) := by decide +kernel
theorem dX8_course_7 : decode cX8_course 7 = .ok (.iconst 1, 1) := by decide +kernel
theorem dX8_course_8 : decode cX8_course 8 = .ok (.invokevirtual 183, 3) := by decide +kernel
theorem dX8_course_11 : decode cX8_course 11 = .ok (.ifCond .ne 5, 3) := by decide +kernel
theorem dX8_course_14 : decode cX8_course 14 = .ok (.lconst 0, 1) := by decide +kernel
theorem dX8_course_15 : decode cX8_course 15 = .ok (.lreturn, 1) := by decide +kernel
theorem dX8_course_16 : decode cX8_course 16 = .ok (.aload_n 0, 1) := by decide +kernel
theorem dX8_course_17 : decode cX8_course 17 = .ok (.iload_n 1, 1) := by decide +kernel
theorem dX8_course_18 : decode cX8_course 18 = .ok (.invokevirtual 98, 3) := by decide +kernel
theorem dX8_course_21 : decode cX8_course 21 = .ok (.lstore_n 2, 1) := by decide +kernel
theorem dX8_course_22 : decode cX8_course 22 = .ok (.lload_n 2, 1) := by decide +kernel
theorem dX8_course_23 : decode cX8_course 23 = .ok (.lstore 4, 2) := by decide +kernel
theorem dX8_course_25 : decode cX8_course 25 = .ok (.lload_n 2, 1) := by decide +kernel
theorem dX8_course_26 : decode cX8_course 26 = .ok (.aload_n 0, 1) := by decide +kernel
theorem dX8_course_27 : decode cX8_course 27 = .ok (.getfield 7, 3) := by decide +kernel
theorem dX8_course_30 : decode cX8_course 30 = .ok (.iconst 2, 1) := by decide +kernel
theorem dX8_course_31 : decode cX8_course 31 = .ok (.laload, 1) := by decide +kernel
theorem dX8_course_32 : decode cX8_course 32 = .ok (.land, 1) := by decide +kernel
theorem dX8_course_33 : decode cX8_course 33 = .ok (.lconst 0, 1) := by decide +kernel
theorem dX8_course_34 : decode cX8_course 34 = .ok (.lcmp, 1) := by decide +kernel
theorem dX8_course_35 : decode cX8_course 35 = .ok (.ifCond .eq 7, 3) := by decide +kernel
theorem dX8_course_38 : decode cX8_course 38 = .ok (.iconst (-1), 1) := by decide +kernel
theorem dX8_course_39 : decode cX8_course 39 = .ok (.goto 8, 3) := by decide +kernel
theorem dX8_course_42 : decode cX8_course 42 = .ok (.aload_n 0, 1) := by decide +kernel
theorem dX8_course_43 : decode cX8_course 43 = .ok (.lload_n 2, 1) := by decide +kernel
theorem dX8_course_44 : decode cX8_course 44 = .ok (.invokevirtual 102, 3) := by decide +kernel
theorem dX8_course_47 : decode cX8_course 47 = .ok (.istore 6, 2) := by decide +kernel
theorem dX8_course_49 : decode cX8_course 49 = .ok (.iload 6, 2) := by decide +kernel
theorem dX8_course_51 : decode cX8_course 51 = .ok (.iconst (-1), 1) := by decide +kernel
theorem dX8_course_52 : decode cX8_course 52 = .ok (.if_icmp .eq 43, 3) := by decide +kernel
theorem dX8_course_55 : decode cX8_course 55 = .ok (.aload_n 0, 1) := by decide +kernel
theorem dX8_course_56 : decode cX8_course 56 = .ok (.iload 6, 2) := by decide +kernel
theorem dX8_course_58 : decode cX8_course 58 = .ok (.invokevirtual 98, 3) := by decide +kernel
theorem dX8_course_61 : decode cX8_course 61 = .ok (.lstore_n 2, 1) := by decide +kernel
theorem dX8_course_62 : decode cX8_course 62 = .ok (.lload 4, 2) := by decide +kernel
theorem dX8_course_64 : decode cX8_course 64 = .ok (.lload_n 2, 1) := by decide +kernel
theorem dX8_course_65 : decode cX8_course 65 = .ok (.lor, 1) := by decide +kernel
theorem dX8_course_66 : decode cX8_course 66 = .ok (.lstore 4, 2) := by decide +kernel
theorem dX8_course_68 : decode cX8_course 68 = .ok (.lload_n 2, 1) := by decide +kernel
theorem dX8_course_69 : decode cX8_course 69 = .ok (.aload_n 0, 1) := by decide +kernel
theorem dX8_course_70 : decode cX8_course 70 = .ok (.getfield 7, 3) := by decide +kernel
theorem dX8_course_73 : decode cX8_course 73 = .ok (.iconst 2, 1) := by decide +kernel
theorem dX8_course_74 : decode cX8_course 74 = .ok (.laload, 1) := by decide +kernel
theorem dX8_course_75 : decode cX8_course 75 = .ok (.land, 1) := by decide +kernel
theorem dX8_course_76 : decode cX8_course 76 = .ok (.lconst 0, 1) := by decide +kernel
theorem dX8_course_77 : decode cX8_course 77 = .ok (.lcmp, 1) := by decide +kernel
theorem dX8_course_78 : decode cX8_course 78 = .ok (.ifCond .eq 7, 3) := by decide +kernel
theorem dX8_course_81 : decode cX8_course 81 = .ok (.iconst (-1), 1) := by decide +kernel
theorem dX8_course_82 : decode cX8_course 82 = .ok (.goto 8, 3) := by decide +kernel
theorem dX8_course_85 : decode cX8_course 85 = .ok (.aload_n 0, 1) := by decide +kernel
theorem dX8_course_86 : decode cX8_course 86 = .ok (.lload_n 2, 1) := by decide +kernel
theorem dX8_course_87 : decode cX8_course 87 = .ok (.invokevirtual 102, 3) := by decide +kernel
theorem dX8_course_90 : decode cX8_course 90 = .ok (.istore 6, 2) := by decide +kernel
theorem dX8_course_92 : decode cX8_course 92 = .ok (.goto (-43), 3) := by decide +kernel
theorem dX8_course_95 : decode cX8_course 95 = .ok (.lload 4, 2) := by decide +kernel
theorem dX8_course_97 : decode cX8_course 97 = .ok (.lreturn, 1) := by decide +kernel
theorem dX8_wets_0 : decode cX8_wets 0 = .ok (.aload_n 0, 1) := by decide +kernel
theorem dX8_wets_1 : decode cX8_wets 1 = .ok (.invokevirtual 272, 3) := by decide +kernel
theorem dX8_wets_4 : decode cX8_wets 4 = .ok (.aload_n 0, 1) := by decide +kernel
theorem dX8_wets_5 : decode cX8_wets 5 = .ok (.iload_n 1, 1) := by decide +kernel
theorem dX8_wets_6 : decode cX8_wets 6 = .ok (.iload_n 3, 1) := by decide +kernel
theorem dX8_wets_7 : decode cX8_wets 7 = .ok (.i2l, 1) := by decide +kernel
theorem dX8_wets_8 : decode cX8_wets 8 = .ok (.invokevirtual 177, 3) := by decide +kernel
theorem dX8_wets_11 : decode cX8_wets 11 = .ok (.aload_n 0, 1) := by decide +kernel
theorem dX8_wets_12 : decode cX8_wets 12 = .ok (.iload_n 2, 1) := by decide +kernel
theorem dX8_wets_13 : decode cX8_wets 13 = .ok (.invokevirtual 165, 3) := by decide +kernel
theorem dX8_wets_16 : decode cX8_wets 16 = .ok (.istore 4, 2) := by decide +kernel
theorem dX8_wets_18 : decode cX8_wets 18 = .ok (.aload_n 0, 1) := by decide +kernel
theorem dX8_wets_19 : decode cX8_wets 19 = .ok (.invokevirtual 275, 3) := by decide +kernel
theorem dX8_wets_22 : decode cX8_wets 22 = .ok (.iload 4, 2) := by decide +kernel
theorem dX8_wets_24 : decode cX8_wets 24 = .ok (.ireturn, 1) := by decide +kernel
theorem dX8_amountFor_0 : decode cX8_amountFor 0 = .ok (.aload_n 0, 1) := by decide +kernel
theorem dX8_amountFor_1 : decode cX8_amountFor 1 = .ok (.aload_n 0, 1) := by decide +kernel
theorem dX8_amountFor_2 : decode cX8_amountFor 2 = .ok (.iload_n 1, 1) := by decide +kernel
theorem dX8_amountFor_3 : decode cX8_amountFor 3 = .ok (.invokevirtual 73, 3) := by decide +kernel
theorem dX8_amountFor_6 : decode cX8_amountFor 6 = .ok (.ifCond .eq 15, 3) := by decide +kernel
theorem dX8_amountFor_9 : decode cX8_amountFor 9 = .ok (.aload_n 0, 1) := by decide +kernel
theorem dX8_amountFor_10 : decode cX8_amountFor 10 = .ok (.iload_n 2, 1) := by decide +kernel
theorem dX8_amountFor_11 : decode cX8_amountFor 11 = .ok (.invokevirtual 73, 3) := by decide +kernel
theorem dX8_amountFor_14 : decode cX8_amountFor 14 = .ok (.ifCond .eq 7, 3) := by decide +kernel
theorem dX8_amountFor_17 : decode cX8_amountFor 17 = .ok (.iconst 1, 1) := by decide +kernel
theorem dX8_amountFor_18 : decode cX8_amountFor 18 = .ok (.goto 4, 3) := by decide +kernel
theorem dX8_amountFor_21 : decode cX8_amountFor 21 = .ok (.iconst 0, 1) := by decide +kernel
theorem dX8_amountFor_22 : decode cX8_amountFor 22 = .ok (.iconst 1, 1) := by decide +kernel
theorem dX8_amountFor_23 : decode cX8_amountFor 23 = .ok (.iconst 1, 1) := by decide +kernel
theorem dX8_amountFor_24 : decode cX8_amountFor 24 = .ok (.invokevirtual 183, 3) := by decide +kernel
theorem dX8_amountFor_27 : decode cX8_amountFor 27 = .ok (.ifCond .ne 5, 3) := by decide +kernel
theorem dX8_amountFor_30 : decode cX8_amountFor 30 = .ok (.iconst 0, 1) := by decide +kernel
theorem dX8_amountFor_31 : decode cX8_amountFor 31 = .ok (.ireturn, 1) := by decide +kernel
theorem dX8_amountFor_32 : decode cX8_amountFor 32 = .ok (.aload_n 0, 1) := by decide +kernel
theorem dX8_amountFor_33 : decode cX8_amountFor 33 = .ok (.iload_n 2, 1) := by decide +kernel
theorem dX8_amountFor_34 : decode cX8_amountFor 34 = .ok (.invokevirtual 165, 3) := by decide +kernel
theorem dX8_amountFor_37 : decode cX8_amountFor 37 = .ok (.ifCond .eq 5, 3) := by decide +kernel
theorem dX8_amountFor_40 : decode cX8_amountFor 40 = .ok (.iconst 0, 1) := by decide +kernel
theorem dX8_amountFor_41 : decode cX8_amountFor 41 = .ok (.ireturn, 1) := by decide +kernel
theorem dX8_amountFor_42 : decode cX8_amountFor 42 = .ok (.aload_n 0, 1) := by decide +kernel
theorem dX8_amountFor_43 : decode cX8_amountFor 43 = .ok (.iload_n 1, 1) := by decide +kernel
theorem dX8_amountFor_44 : decode cX8_amountFor 44 = .ok (.iload_n 2, 1) := by decide +kernel
theorem dX8_amountFor_45 : decode cX8_amountFor 45 = .ok (.ldc_w 278, 3) := by decide +kernel
theorem dX8_amountFor_48 : decode cX8_amountFor 48 = .ok (.invokevirtual 279, 3) := by decide +kernel
theorem dX8_amountFor_51 : decode cX8_amountFor 51 = .ok (.ifCond .ne 5, 3) := by decide +kernel
theorem dX8_amountFor_54 : decode cX8_amountFor 54 = .ok (.iconst (-1), 1) := by decide +kernel
theorem dX8_amountFor_55 : decode cX8_amountFor 55 = .ok (.ireturn, 1) := by decide +kernel
theorem dX8_amountFor_56 : decode cX8_amountFor 56 = .ok (.iconst 0, 1) := by decide +kernel
theorem dX8_amountFor_57 : decode cX8_amountFor 57 = .ok (.istore_n 3, 1) := by decide +kernel
theorem dX8_amountFor_58 : decode cX8_amountFor 58 = .ok (.ldc_w 278, 3) := by decide +kernel
theorem dX8_amountFor_61 : decode cX8_amountFor 61 = .ok (.istore 4, 2) := by decide +kernel
theorem dX8_amountFor_63 : decode cX8_amountFor 63 = .ok (.iload 4, 2) := by decide +kernel
theorem dX8_amountFor_65 : decode cX8_amountFor 65 = .ok (.iload_n 3, 1) := by decide +kernel
theorem dX8_amountFor_66 : decode cX8_amountFor 66 = .ok (.isub, 1) := by decide +kernel
theorem dX8_amountFor_67 : decode cX8_amountFor 67 = .ok (.iconst 1, 1) := by decide +kernel
theorem dX8_amountFor_68 : decode cX8_amountFor 68 = .ok (.if_icmp .le 50, 3) := by decide +kernel
theorem dX8_amountFor_71 : decode cX8_amountFor 71 = .ok (.iload 4, 2) := by decide +kernel
theorem dX8_amountFor_73 : decode cX8_amountFor 73 = .ok (.iload_n 3, 1) := by decide +kernel
theorem dX8_amountFor_74 : decode cX8_amountFor 74 = .ok (.iadd, 1) := by decide +kernel
theorem dX8_amountFor_75 : decode cX8_amountFor 75 = .ok (.iconst 2, 1) := by decide +kernel
theorem dX8_amountFor_76 : decode cX8_amountFor 76 = .ok (.idiv, 1) := by decide +kernel
theorem dX8_amountFor_77 : decode cX8_amountFor 77 = .ok (.istore 5, 2) := by decide +kernel
theorem dX8_amountFor_79 : decode cX8_amountFor 79 = .ok (.aload_n 0, 1) := by decide +kernel
theorem dX8_amountFor_80 : decode cX8_amountFor 80 = .ok (.iload_n 1, 1) := by decide +kernel
theorem dX8_amountFor_81 : decode cX8_amountFor 81 = .ok (.iload_n 2, 1) := by decide +kernel
theorem dX8_amountFor_82 : decode cX8_amountFor 82 = .ok (.iload 5, 2) := by decide +kernel
theorem dX8_amountFor_84 : decode cX8_amountFor 84 = .ok (.invokevirtual 279, 3) := by decide +kernel
theorem dX8_amountFor_87 : decode cX8_amountFor 87 = .ok (.istore 6, 2) := by decide +kernel
theorem dX8_amountFor_89 : decode cX8_amountFor 89 = .ok (.iload 6, 2) := by decide +kernel
theorem dX8_amountFor_91 : decode cX8_amountFor 91 = .ok (.ifCond .eq 8, 3) := by decide +kernel
theorem dX8_amountFor_94 : decode cX8_amountFor 94 = .ok (.iload 5, 2) := by decide +kernel
theorem dX8_amountFor_96 : decode cX8_amountFor 96 = .ok (.goto 5, 3) := by decide +kernel
theorem dX8_amountFor_99 : decode cX8_amountFor 99 = .ok (.iload 4, 2) := by decide +kernel
theorem dX8_amountFor_101 : decode cX8_amountFor 101 = .ok (.istore 4, 2) := by decide +kernel
theorem dX8_amountFor_103 : decode cX8_amountFor 103 = .ok (.iload 6, 2) := by decide +kernel
theorem dX8_amountFor_105 : decode cX8_amountFor 105 = .ok (.ifCond .eq 7, 3) := by decide +kernel
theorem dX8_amountFor_108 : decode cX8_amountFor 108 = .ok (.iload_n 3, 1) := by decide +kernel
theorem dX8_amountFor_109 : decode cX8_amountFor 109 = .ok (.goto 5, 3) := by decide +kernel
theorem dX8_amountFor_112 : decode cX8_amountFor 112 = .ok (.iload 5, 2) := by decide +kernel
theorem dX8_amountFor_114 : decode cX8_amountFor 114 = .ok (.istore_n 3, 1) := by decide +kernel
theorem dX8_amountFor_115 : decode cX8_amountFor 115 = .ok (.goto (-52), 3) := by decide +kernel
theorem dX8_amountFor_118 : decode cX8_amountFor 118 = .ok (.iload 4, 2) := by decide +kernel
theorem dX8_amountFor_120 : decode cX8_amountFor 120 = .ok (.ireturn, 1) := by decide +kernel
theorem dX8_lakesAfter_0 : decode cX8_lakesAfter 0 = .ok (.aload_n 0, 1) := by decide +kernel
theorem dX8_lakesAfter_1 : decode cX8_lakesAfter 1 = .ok (.invokevirtual 272, 3) := by decide +kernel
theorem dX8_lakesAfter_4 : decode cX8_lakesAfter 4 = .ok (.iconst 0, 1) := by decide +kernel
theorem dX8_lakesAfter_5 : decode cX8_lakesAfter 5 = .ok (.istore_n 2, 1) := by decide +kernel
theorem dX8_lakesAfter_6 : decode cX8_lakesAfter 6 = .ok (.iload_n 2, 1) := by decide +kernel
theorem dX8_lakesAfter_7 : decode cX8_lakesAfter 7 = .ok (.aload_n 0, 1) := by decide +kernel
theorem dX8_lakesAfter_8 : decode cX8_lakesAfter 8 = .ok (.invokevirtual 61, 3) := by decide +kernel
theorem dX8_lakesAfter_11 : decode cX8_lakesAfter 11 = .ok (.if_icmp .ge 16, 3) := by decide +kernel
theorem dX8_lakesAfter_14 : decode cX8_lakesAfter 14 = .ok (.aload_n 0, 1) := by decide +kernel
theorem dX8_lakesAfter_15 : decode cX8_lakesAfter 15 = .ok (.iload_n 2, 1) := by decide +kernel
theorem dX8_lakesAfter_16 : decode cX8_lakesAfter 16 = .ok (.iload_n 1, 1) := by decide +kernel
