theorem dX7_init_0 : decode cX7_init 0 = .ok (.aload_n 0, 1) := by decide +kernel
theorem dX7_init_1 : decode cX7_init 1 = .ok (.invokespecial 3, 3) := by decide +kernel
theorem dX7_init_4 : decode cX7_init 4 = .ok (.aload_n 0, 1) := by decide +kernel
theorem dX7_init_5 : decode cX7_init 5 = .ok (.new 9, 3) := by decide +kernel
theorem dX7_init_8 : decode cX7_init 8 = .ok (.dup, 1) := by decide +kernel
theorem dX7_init_9 : decode cX7_init 9 = .ok (.invokespecial 11, 3) := by decide +kernel
theorem dX7_init_12 : decode cX7_init 12 = .ok (.putfield 12, 3) := by decide +kernel
theorem dX7_init_15 : decode cX7_init 15 = .ok (.aload_n 0, 1) := by decide +kernel
theorem dX7_init_16 : decode cX7_init 16 = .ok (.new 9, 3) := by decide +kernel
theorem dX7_init_19 : decode cX7_init 19 = .ok (.dup, 1) := by decide +kernel
theorem dX7_init_20 : decode cX7_init 20 = .ok (.invokespecial 11, 3) := by decide +kernel
theorem dX7_init_23 : decode cX7_init 23 = .ok (.putfield 16, 3) := by decide +kernel
theorem dX7_init_26 : decode cX7_init 26 = .ok (.aload_n 0, 1) := by decide +kernel
theorem dX7_init_27 : decode cX7_init 27 = .ok (.iconst 4, 1) := by decide +kernel
theorem dX7_init_28 : decode cX7_init 28 = .ok (.anewarray 9, 3) := by decide +kernel
theorem dX7_init_31 : decode cX7_init 31 = .ok (.putfield 19, 3) := by decide +kernel
theorem dX7_init_34 : decode cX7_init 34 = .ok (.aload_n 0, 1) := by decide +kernel
theorem dX7_init_35 : decode cX7_init 35 = .ok (.new 23, 3) := by decide +kernel
theorem dX7_init_38 : decode cX7_init 38 = .ok (.dup, 1) := by decide +kernel
theorem dX7_init_39 : decode cX7_init 39 = .ok (.invokespecial 25, 3) := by decide +kernel
theorem dX7_init_42 : decode cX7_init 42 = .ok (.putfield 26, 3) := by decide +kernel
theorem dX7_init_45 : decode cX7_init 45 = .ok (.iconst 0, 1) := by decide +kernel
theorem dX7_init_46 : decode cX7_init 46 = .ok (.istore_n 1, 1) := by decide +kernel
theorem dX7_init_47 : decode cX7_init 47 = .ok (.iload_n 1, 1) := by decide +kernel
theorem dX7_init_48 : decode cX7_init 48 = .ok (.aload_n 0, 1) := by decide +kernel
theorem dX7_init_49 : decode cX7_init 49 = .ok (.getfield 19, 3) := by decide +kernel
theorem dX7_init_52 : decode cX7_init 52 = .ok (.arraylength, 1) := by decide +kernel
theorem dX7_init_53 : decode cX7_init 53 = .ok (.if_icmp .ge 22, 3) := by decide +kernel
theorem dX7_init_56 : decode cX7_init 56 = .ok (.aload_n 0, 1) := by decide +kernel
theorem dX7_init_57 : decode cX7_init 57 = .ok (.getfield 19, 3) := by decide +kernel
theorem dX7_init_60 : decode cX7_init 60 = .ok (.iload_n 1, 1) := by decide +kernel
theorem dX7_init_61 : decode cX7_init 61 = .ok (.new 9, 3) := by decide +kernel
theorem dX7_init_64 : decode cX7_init 64 = .ok (.dup, 1) := by decide +kernel
theorem dX7_init_65 : decode cX7_init 65 = .ok (.invokespecial 11, 3) := by decide +kernel
theorem dX7_init_68 : decode cX7_init 68 = .ok (.aastore, 1) := by decide +kernel
theorem dX7_init_69 : decode cX7_init 69 = .ok (.iinc 1 1, 3) := by decide +kernel
theorem dX7_init_72 : decode cX7_init 72 = .ok (.goto (-25), 3) := by decide +kernel
theorem dX7_init_75 : decode cX7_init 75 = .ok (.aload_n 0, 1) := by decide +kernel
theorem dX7_init_76 : decode cX7_init 76 = .ok (.getfield 12, 3) := by decide +kernel
theorem dX7_init_79 : decode cX7_init 79 = .ok (.getfield 30, 3) := by decide +kernel
theorem dX7_init_82 : decode cX7_init 82 = .ok (.iconst 1, 1) := by decide +kernel
theorem dX7_init_83 : decode cX7_init 83 = .ok (.iconst 1, 1) := by decide +kernel
theorem dX7_init_84 : decode cX7_init 84 = .ok (.invokevirtual 34, 3) := by decide +kernel
theorem dX7_init_87 : decode cX7_init 87 = .ok (.aload_n 0, 1) := by decide +kernel
theorem dX7_init_88 : decode cX7_init 88 = .ok (.getfield 12, 3) := by decide +kernel
theorem dX7_init_91 : decode cX7_init 91 = .ok (.invokevirtual 40, 3) := by decide +kernel
theorem dX7_init_94 : decode cX7_init 94 = .ok (.return_, 1) := by decide +kernel
theorem dX7_begin_0 : decode cX7_begin 0 = .ok (.iload_n 1, 1) := by decide +kernel
theorem dX7_begin_1 : decode cX7_begin 1 = .ok (.iconst 1, 1) := by decide +kernel
theorem dX7_begin_2 : decode cX7_begin 2 = .ok (.bipush 6, 2) := by decide +kernel
theorem dX7_begin_4 : decode cX7_begin 4 = .ok (.invokestatic 43, 3) := by decide +kernel
theorem dX7_begin_7 : decode cX7_begin 7 = .ok (.iload_n 2, 1) := by decide +kernel
theorem dX7_begin_8 : decode cX7_begin 8 = .ok (.iconst 1, 1) := by decide +kernel
theorem dX7_begin_9 : decode cX7_begin 9 = .ok (.bipush 6, 2) := by decide +kernel
theorem dX7_begin_11 : decode cX7_begin 11 = .ok (.invokestatic 43, 3) := by decide +kernel
theorem dX7_begin_14 : decode cX7_begin 14 = .ok (.aload_n 0, 1) := by decide +kernel
theorem dX7_begin_15 : decode cX7_begin 15 = .ok (.invokevirtual 47, 3) := by decide +kernel
theorem dX7_begin_18 : decode cX7_begin 18 = .ok (.aload_n 0, 1) := by decide +kernel
theorem dX7_begin_19 : decode cX7_begin 19 = .ok (.getfield 12, 3) := by decide +kernel
theorem dX7_begin_22 : decode cX7_begin 22 = .ok (.getfield 30, 3) := by decide +kernel
theorem dX7_begin_25 : decode cX7_begin 25 = .ok (.iload_n 1, 1) := by decide +kernel
theorem dX7_begin_26 : decode cX7_begin 26 = .ok (.iload_n 2, 1) := by decide +kernel
theorem dX7_begin_27 : decode cX7_begin 27 = .ok (.invokevirtual 34, 3) := by decide +kernel
theorem dX7_begin_30 : decode cX7_begin 30 = .ok (.aload_n 0, 1) := by decide +kernel
theorem dX7_begin_31 : decode cX7_begin 31 = .ok (.getfield 12, 3) := by decide +kernel
theorem dX7_begin_34 : decode cX7_begin 34 = .ok (.invokevirtual 40, 3) := by decide +kernel
theorem dX7_begin_37 : decode cX7_begin 37 = .ok (.aload_n 0, 1) := by decide +kernel
theorem dX7_begin_38 : decode cX7_begin 38 = .ok (.getfield 12, 3) := by decide +kernel
theorem dX7_begin_41 : decode cX7_begin 41 = .ok (.getfield 30, 3) := by decide +kernel
theorem dX7_begin_44 : decode cX7_begin 44 = .ok (.getfield 50, 3) := by decide +kernel
theorem dX7_begin_47 : decode cX7_begin 47 = .ok (.ireturn, 1) := by decide +kernel
theorem dX7_setHeight_0 : decode cX7_setHeight 0 = .ok (.aload_n 0, 1) := by decide +kernel
theorem dX7_setHeight_1 : decode cX7_setHeight 1 = .ok (.iload_n 1, 1) := by decide +kernel
theorem dX7_setHeight_2 : decode cX7_setHeight 2 = .ok (.invokevirtual 54, 3) := by decide +kernel
theorem dX7_setHeight_5 : decode cX7_setHeight 5 = .ok (.iload_n 2, 1) := by decide +kernel
theorem dX7_setHeight_6 : decode cX7_setHeight 6 = .ok (.iconst 0, 1) := by decide +kernel
theorem dX7_setHeight_7 : decode cX7_setHeight 7 = .ok (.bipush 99, 2) := by decide +kernel
theorem dX7_setHeight_9 : decode cX7_setHeight 9 = .ok (.invokestatic 43, 3) := by decide +kernel
theorem dX7_setHeight_12 : decode cX7_setHeight 12 = .ok (.aload_n 0, 1) := by decide +kernel
theorem dX7_setHeight_13 : decode cX7_setHeight 13 = .ok (.getfield 12, 3) := by decide +kernel
theorem dX7_setHeight_16 : decode cX7_setHeight 16 = .ok (.getfield 30, 3) := by decide +kernel
theorem dX7_setHeight_19 : decode cX7_setHeight 19 = .ok (.getfield 58, 3) := by decide +kernel
theorem dX7_setHeight_22 : decode cX7_setHeight 22 = .ok (.iload_n 1, 1) := by decide +kernel
theorem dX7_setHeight_23 : decode cX7_setHeight 23 = .ok (.invokevirtual 62, 3) := by decide +kernel
theorem dX7_setHeight_26 : decode cX7_setHeight 26 = .ok (.istore_n 3, 1) := by decide +kernel
theorem dX7_setHeight_27 : decode cX7_setHeight 27 = .ok (.aload_n 0, 1) := by decide +kernel
theorem dX7_setHeight_28 : decode cX7_setHeight 28 = .ok (.invokevirtual 47, 3) := by decide +kernel
theorem dX7_setHeight_31 : decode cX7_setHeight 31 = .ok (.aload_n 0, 1) := by decide +kernel
theorem dX7_setHeight_32 : decode cX7_setHeight 32 = .ok (.getfield 12, 3) := by decide +kernel
theorem dX7_setHeight_35 : decode cX7_setHeight 35 = .ok (.invokevirtual 68, 3) := by decide +kernel
theorem dX7_setHeight_38 : decode cX7_setHeight 38 = .ok (.aload_n 0, 1) := by decide +kernel
theorem dX7_setHeight_39 : decode cX7_setHeight 39 = .ok (.getfield 12, 3) := by decide +kernel
theorem dX7_setHeight_42 : decode cX7_setHeight 42 = .ok (.getfield 30, 3) := by decide +kernel
theorem dX7_setHeight_45 : decode cX7_setHeight 45 = .ok (.getfield 58, 3) := by decide +kernel
theorem dX7_setHeight_48 : decode cX7_setHeight 48 = .ok (.iload_n 1, 1) := by decide +kernel
theorem dX7_setHeight_49 : decode cX7_setHeight 49 = .ok (.iload_n 2, 1) := by decide +kernel
theorem dX7_setHeight_50 : decode cX7_setHeight 50 = .ok (.invokevirtual 71, 3) := by decide +kernel
theorem dX7_setHeight_53 : decode cX7_setHeight 53 = .ok (.aload_n 0, 1) := by decide +kernel
theorem dX7_setHeight_54 : decode cX7_setHeight 54 = .ok (.getfield 12, 3) := by decide +kernel
theorem dX7_setHeight_57 : decode cX7_setHeight 57 = .ok (.invokevirtual 74, 3) := by decide +kernel
theorem dX7_setHeight_60 : decode cX7_setHeight 60 = .ok (.iload_n 3, 1) := by decide +kernel
theorem dX7_setHeight_61 : decode cX7_setHeight 61 = .ok (.ireturn, 1) := by decide +kernel
theorem dX7_setDrain_0 : decode cX7_setDrain 0 = .ok (.aload_n 0, 1) := by decide +kernel
theorem dX7_setDrain_1 : decode cX7_setDrain 1 = .ok (.iload_n 1, 1) := by decide +kernel
theorem dX7_setDrain_2 : decode cX7_setDrain 2 = .ok (.invokevirtual 54, 3) := by decide +kernel
theorem dX7_setDrain_5 : decode cX7_setDrain 5 = .ok (.aload_n 0, 1) := by decide +kernel
theorem dX7_setDrain_6 : decode cX7_setDrain 6 = .ok (.getfield 12, 3) := by decide +kernel
theorem dX7_setDrain_9 : decode cX7_setDrain 9 = .ok (.getfield 30, 3) := by decide +kernel
theorem dX7_setDrain_12 : decode cX7_setDrain 12 = .ok (.getfield 77, 3) := by decide +kernel
theorem dX7_setDrain_15 : decode cX7_setDrain 15 = .ok (.iload_n 1, 1) := by decide +kernel
theorem dX7_setDrain_16 : decode cX7_setDrain 16 = .ok (.invokestatic 81, 3) := by decide +kernel
theorem dX7_setDrain_19 : decode cX7_setDrain 19 = .ok (.istore_n 3, 1) := by decide +kernel
theorem dX7_setDrain_20 : decode cX7_setDrain 20 = .ok (.aload_n 0, 1) := by decide +kernel
theorem dX7_setDrain_21 : decode cX7_setDrain 21 = .ok (.invokevirtual 47, 3) := by decide +kernel
theorem dX7_setDrain_24 : decode cX7_setDrain 24 = .ok (.aload_n 0, 1) := by decide +kernel
theorem dX7_setDrain_25 : decode cX7_setDrain 25 = .ok (.getfield 12, 3) := by decide +kernel
theorem dX7_setDrain_28 : decode cX7_setDrain 28 = .ok (.invokevirtual 68, 3) := by decide +kernel
theorem dX7_setDrain_31 : decode cX7_setDrain 31 = .ok (.aload_n 0, 1) := by decide +kernel
theorem dX7_setDrain_32 : decode cX7_setDrain 32 = .ok (.getfield 12, 3) := by decide +kernel
theorem dX7_setDrain_35 : decode cX7_setDrain 35 = .ok (.getfield 30, 3) := by decide +kernel
theorem dX7_setDrain_38 : decode cX7_setDrain 38 = .ok (.iload_n 1, 1) := by decide +kernel
theorem dX7_setDrain_39 : decode cX7_setDrain 39 = .ok (.iload_n 2, 1) := by decide +kernel
theorem dX7_setDrain_40 : decode cX7_setDrain 40 = .ok (.invokevirtual 85, 3) := by decide +kernel
theorem dX7_setDrain_43 : decode cX7_setDrain 43 = .ok (.aload_n 0, 1) := by decide +kernel
theorem dX7_setDrain_44 : decode cX7_setDrain 44 = .ok (.getfield 12, 3) := by decide +kernel
theorem dX7_setDrain_47 : decode cX7_setDrain 47 = .ok (.invokevirtual 74, 3) := by decide +kernel
theorem dX7_setDrain_50 : decode cX7_setDrain 50 = .ok (.iload_n 3, 1) := by decide +kernel
theorem dX7_setDrain_51 : decode cX7_setDrain 51 = .ok (.ireturn, 1) := by decide +kernel
theorem dX7_random_0 : decode cX7_random 0 = .ok (.iload_n 1, 1) := by decide +kernel
theorem dX7_random_1 : decode cX7_random 1 = .ok (.iconst 0, 1) := by decide +kernel
theorem dX7_random_2 : decode cX7_random 2 = .ok (.ldc 102, 2) := by decide +kernel
theorem dX7_random_4 : decode cX7_random 4 = .ok (.invokestatic 43, 3) := by decide +kernel
theorem dX7_random_7 : decode cX7_random 7 = .ok (.iload_n 2, 1) := by decide +kernel
theorem dX7_random_8 : decode cX7_random 8 = .ok (.iconst 0, 1) := by decide +kernel
theorem dX7_random_9 : decode cX7_random 9 = .ok (.bipush 99, 2) := by decide +kernel
theorem dX7_random_11 : decode cX7_random 11 = .ok (.invokestatic 43, 3) := by decide +kernel
theorem dX7_random_14 : decode cX7_random 14 = .ok (.aload_n 0, 1) := by decide +kernel
theorem dX7_random_15 : decode cX7_random 15 = .ok (.invokevirtual 47, 3) := by decide +kernel
theorem dX7_random_18 : decode cX7_random 18 = .ok (.aload_n 0, 1) := by decide +kernel
theorem dX7_random_19 : decode cX7_random 19 = .ok (.getfield 12, 3) := by decide +kernel
theorem dX7_random_22 : decode cX7_random 22 = .ok (.invokevirtual 68, 3) := by decide +kernel
theorem dX7_random_25 : decode cX7_random 25 = .ok (.aload_n 0, 1) := by decide +kernel
theorem dX7_random_26 : decode cX7_random 26 = .ok (.getfield 12, 3) := by decide +kernel
theorem dX7_random_29 : decode cX7_random 29 = .ok (.getfield 30, 3) := by decide +kernel
theorem dX7_random_32 : decode cX7_random 32 = .ok (.iload_n 1, 1) := by decide +kernel
theorem dX7_random_33 : decode cX7_random 33 = .ok (.iload_n 2, 1) := by decide +kernel
theorem dX7_random_34 : decode cX7_random 34 = .ok (.invokevirtual 103, 3) := by decide +kernel
theorem dX7_random_37 : decode cX7_random 37 = .ok (.aload_n 0, 1) := by decide +kernel
theorem dX7_random_38 : decode cX7_random 38 = .ok (.getfield 12, 3) := by decide +kernel
theorem dX7_random_41 : decode cX7_random 41 = .ok (.invokevirtual 74, 3) := by decide +kernel
theorem dX7_random_44 : decode cX7_random 44 = .ok (.aload_n 0, 1) := by decide +kernel
theorem dX7_random_45 : decode cX7_random 45 = .ok (.getfield 12, 3) := by decide +kernel
theorem dX7_random_48 : decode cX7_random 48 = .ok (.getfield 106, 3) := by decide +kernel
theorem dX7_random_51 : decode cX7_random 51 = .ok (.getfield 110, 3) := by decide +kernel
theorem dX7_random_54 : decode cX7_random 54 = .ok (.ireturn, 1) := by decide +kernel
theorem dX7_cell_0 : decode cX7_cell 0 = .ok (.aload_n 0, 1) := by decide +kernel
theorem dX7_cell_1 : decode cX7_cell 1 = .ok (.iload_n 1, 1) := by decide +kernel
theorem dX7_cell_2 : decode cX7_cell 2 = .ok (.invokevirtual 54, 3) := by decide +kernel
theorem dX7_cell_5 : decode cX7_cell 5 = .ok (.iload_n 2, 1) := by decide +kernel
theorem dX7_cell_6 : decode cX7_cell 6 = .ok (.iconst 0, 1) := by decide +kernel
theorem dX7_cell_7 : decode cX7_cell 7 = .ok (.iconst 5, 1) := by decide +kernel
theorem dX7_cell_8 : decode cX7_cell 8 = .ok (.invokestatic 43, 3) := by decide +kernel
theorem dX7_cell_11 : decode cX7_cell 11 = .ok (.aload_n 0, 1) := by decide +kernel
theorem dX7_cell_12 : decode cX7_cell 12 = .ok (.iload_n 1, 1) := by decide +kernel
theorem dX7_cell_13 : decode cX7_cell 13 = .ok (.iload_n 2, 1) := by decide +kernel
theorem dX7_cell_14 : decode cX7_cell 14 = .ok (.invokevirtual 115, 3) := by decide +kernel
theorem dX7_cell_17 : decode cX7_cell 17 = .ok (.ireturn, 1) := by decide +kernel
theorem dX7_count_0 : decode cX7_count 0 = .ok (.iload_n 1, 1) := by decide +kernel
theorem dX7_count_1 : decode cX7_count 1 = .ok (.iconst 0, 1) := by decide +kernel
theorem dX7_count_2 : decode cX7_count 2 = .ok (.bipush 6, 2) := by decide +kernel
theorem dX7_count_4 : decode cX7_count 4 = .ok (.invokestatic 43, 3) := by decide +kernel
theorem dX7_count_7 : decode cX7_count 7 = .ok (.aload_n 0, 1) := by decide +kernel
theorem dX7_count_8 : decode cX7_count 8 = .ok (.iload_n 1, 1) := by decide +kernel
theorem dX7_count_9 : decode cX7_count 9 = .ok (.invokevirtual 121, 3) := by decide +kernel
theorem dX7_count_12 : decode cX7_count 12 = .ok (.ireturn, 1) := by decide +kernel
theorem dX7_pour_0 : decode cX7_pour 0 = .ok (.aload_n 0, 1) := by decide +kernel
theorem dX7_pour_1 : decode cX7_pour 1 = .ok (.iload_n 1, 1) := by decide +kernel
theorem dX7_pour_2 : decode cX7_pour 2 = .ok (.invokevirtual 54, 3) := by decide +kernel
theorem dX7_pour_5 : decode cX7_pour 5 = .ok (.iload_n 2, 1) := by decide +kernel
theorem dX7_pour_6 : decode cX7_pour 6 = .ok (.iconst 0, 1) := by decide +kernel
theorem dX7_pour_7 : decode cX7_pour 7 = .ok (.ldc 124, 2) := by decide +kernel
theorem dX7_pour_9 : decode cX7_pour 9 = .ok (.invokestatic 43, 3) := by decide +kernel
theorem dX7_pour_12 : decode cX7_pour 12 = .ok (.aload_n 0, 1) := by decide +kernel
theorem dX7_pour_13 : decode cX7_pour 13 = .ok (.iload_n 2, 1) := by decide +kernel
theorem dX7_pour_14 : decode cX7_pour 14 = .ok (.invokevirtual 125, 3) := by decide +kernel
theorem dX7_pour_17 : decode cX7_pour 17 = .ok (.aload_n 0, 1) := by decide +kernel
theorem dX7_pour_18 : decode cX7_pour 18 = .ok (.invokevirtual 47, 3) := by decide +kernel
theorem dX7_pour_21 : decode cX7_pour 21 = .ok (.aload_n 0, 1) := by decide +kernel
theorem dX7_pour_22 : decode cX7_pour 22 = .ok (.getfield 12, 3) := by decide +kernel
theorem dX7_pour_25 : decode cX7_pour 25 = .ok (.dup, 1) := by decide +kernel
theorem dX7_pour_26 : decode cX7_pour 26 = .ok (.getfield 128, 3) := by decide +kernel
theorem dX7_pour_29 : decode cX7_pour 29 = .ok (.iload_n 2, 1) := by decide +kernel
theorem dX7_pour_30 : decode cX7_pour 30 = .ok (.i2l, 1) := by decide +kernel
theorem dX7_pour_31 : decode cX7_pour 31 = .ok (.ladd, 1) := by decide +kernel
theorem dX7_pour_32 : decode cX7_pour 32 = .ok (.putfield 128, 3) := by decide +kernel
theorem dX7_pour_35 : decode cX7_pour 35 = .ok (.aload_n 0, 1) := by decide +kernel
theorem dX7_pour_36 : decode cX7_pour 36 = .ok (.getfield 12, 3) := by decide +kernel
theorem dX7_pour_39 : decode cX7_pour 39 = .ok (.iload_n 1, 1) := by decide +kernel
theorem dX7_pour_40 : decode cX7_pour 40 = .ok (.iload_n 2, 1) := by decide +kernel
theorem dX7_pour_41 : decode cX7_pour 41 = .ok (.invokevirtual 131, 3) := by decide +kernel
theorem dX7_pour_44 : decode cX7_pour 44 = .ok (.ireturn, 1) := by decide +kernel
theorem dX7_evaporate_0 : decode cX7_evaporate 0 = .ok (.iload_n 1, 1) := by decide +kernel
theorem dX7_evaporate_1 : decode cX7_evaporate 1 = .ok (.iconst 0, 1) := by decide +kernel
theorem dX7_evaporate_2 : decode cX7_evaporate 2 = .ok (.bipush 100, 2) := by decide +kernel
theorem dX7_evaporate_4 : decode cX7_evaporate 4 = .ok (.invokestatic 43, 3) := by decide +kernel
theorem dX7_evaporate_7 : decode cX7_evaporate 7 = .ok (.aload_n 0, 1) := by decide +kernel
theorem dX7_evaporate_8 : decode cX7_evaporate 8 = .ok (.invokevirtual 47, 3) := by decide +kernel
theorem dX7_evaporate_11 : decode cX7_evaporate 11 = .ok (.aload_n 0, 1) := by decide +kernel
theorem dX7_evaporate_12 : decode cX7_evaporate 12 = .ok (.getfield 12, 3) := by decide +kernel
theorem dX7_evaporate_15 : decode cX7_evaporate 15 = .ok (.iload_n 1, 1) := by decide +kernel
theorem dX7_evaporate_16 : decode cX7_evaporate 16 = .ok (.invokevirtual 137, 3) := by decide +kernel
theorem dX7_evaporate_19 : decode cX7_evaporate 19 = .ok (.ireturn, 1) := by decide +kernel
theorem dX7_balance_0 : decode cX7_balance 0 = .ok (.iload_n 1, 1) := by decide +kernel
theorem dX7_balance_1 : decode cX7_balance 1 = .ok (.iconst 0, 1) := by decide +kernel
theorem dX7_balance_2 : decode cX7_balance 2 = .ok (.iconst 3, 1) := by decide +kernel
theorem dX7_balance_3 : decode cX7_balance 3 = .ok (.invokestatic 43, 3) := by decide +kernel
theorem dX7_balance_6 : decode cX7_balance 6 = .ok (.aload_n 0, 1) := by decide +kernel
theorem dX7_balance_7 : decode cX7_balance 7 = .ok (.iload_n 1, 1) := by decide +kernel
theorem dX7_balance_8 : decode cX7_balance 8 = .ok (.invokevirtual 162, 3) := by decide +kernel
theorem dX7_balance_11 : decode cX7_balance 11 = .ok (.lreturn, 1) := by decide +kernel
theorem dX7_depth_0 : decode cX7_depth 0 = .ok (.aload_n 0, 1) := by decide +kernel
theorem dX7_depth_1 : decode cX7_depth 1 = .ok (.iload_n 1, 1) := by decide +kernel
theorem dX7_depth_2 : decode cX7_depth 2 = .ok (.invokevirtual 54, 3) := by decide +kernel
theorem dX7_depth_5 : decode cX7_depth 5 = .ok (.aload_n 0, 1) := by decide +kernel
theorem dX7_depth_6 : decode cX7_depth 6 = .ok (.iload_n 1, 1) := by decide +kernel
theorem dX7_depth_7 : decode cX7_depth 7 = .ok (.invokevirtual 179, 3) := by decide +kernel
theorem dX7_depth_10 : decode cX7_depth 10 = .ok (.dreturn, 1) := by decide +kernel
theorem dX7_deepest_0 : decode cX7_deepest 0 = .ok (.iconst (-1), 1) := by decide +kernel
theorem dX7_deepest_1 : decode cX7_deepest 1 = .ok (.istore_n 1, 1) := by decide +kernel
theorem dX7_deepest_2 : decode cX7_deepest 2 = .ok (.dconst 0, 1) := by decide +kernel
theorem dX7_deepest_3 : decode cX7_deepest 3 = .ok (.dstore_n 2, 1) := by decide +kernel
theorem dX7_deepest_4 : decode cX7_deepest 4 = .ok (.iconst 0, 1) := by decide +kernel
theorem dX7_deepest_5 : decode cX7_deepest 5 = .ok (.istore 4, 2) := by decide +kernel
theorem dX7_deepest_7 : decode cX7_deepest 7 = .ok (.iload 4, 2) := by decide +kernel
theorem dX7_deepest_9 : decode cX7_deepest 9 = .ok (.aload_n 0, 1) := by decide +kernel
theorem dX7_deepest_10 : decode cX7_deepest 10 = .ok (.getfield 12, 3) := by decide +kernel
theorem dX7_deepest_13 : decode cX7_deepest 13 = .ok (.getfield 30, 3) := by decide +kernel
theorem dX7_deepest_16 : decode cX7_deepest 16 = .ok (.getfield 50, 3) := by decide +kernel
theorem dX7_deepest_19 : decode cX7_deepest 19 = .ok (.if_icmp .ge 30, 3) := by decide +kernel
theorem dX7_deepest_22 : decode cX7_deepest 22 = .ok (.aload_n 0, 1) := by decide +kernel
theorem dX7_deepest_23 : decode cX7_deepest 23 = .ok (.iload 4, 2) := by decide +kernel
theorem dX7_deepest_25 : decode cX7_deepest 25 = .ok (.invokevirtual 179, 3) := by decide +kernel
theorem dX7_deepest_28 : decode cX7_deepest 28 = .ok (.dstore 5, 2) := by decide +kernel
theorem dX7_deepest_30 : decode cX7_deepest 30 = .ok (.dload 5, 2) := by decide +kernel
theorem dX7_deepest_32 : decode cX7_deepest 32 = .ok (.dload_n 2, 1) := by decide +kernel
theorem dX7_deepest_33 : decode cX7_deepest 33 = .ok (.dcmp .l, 1) := by decide +kernel
theorem dX7_deepest_34 : decode cX7_deepest 34 = .ok (.ifCond .le 9, 3) := by decide +kernel
theorem dX7_deepest_37 : decode cX7_deepest 37 = .ok (.dload 5, 2) := by decide +kernel
theorem dX7_deepest_39 : decode cX7_deepest 39 = .ok (.dstore_n 2, 1) := by decide +kernel
theorem dX7_deepest_40 : decode cX7_deepest 40 = .ok (.iload 4, 2) := by decide +kernel
theorem dX7_deepest_42 : decode cX7_deepest 42 = .ok (.istore_n 1, 1) := by decide +kernel
theorem dX7_deepest_43 : decode cX7_deepest 43 = .ok (.iinc 4 1, 3) := by decide +kernel
theorem dX7_deepest_46 : decode cX7_deepest 46 = .ok (.goto (-39), 3) := by decide +kernel
theorem dX7_deepest_49 : decode cX7_deepest 49 = .ok (.iload_n 1, 1) := by decide +kernel
theorem dX7_deepest_50 : decode cX7_deepest 50 = .ok (.ireturn, 1) := by decide +kernel
theorem dX7_course_0 : decode cX7_course 0 = .ok (.aload_n 0, 1) := by decide +kernel
theorem dX7_course_1 : decode cX7_course 1 = .ok (.iload_n 1, 1) := by decide +kernel
theorem dX7_course_2 : decode cX7_course 2 = .ok (.invokevirtual 54, 3) := by decide +kernel
theorem dX7_course_5 : decode cX7_course 5 = .ok (.aload_n 0, 1) := by decide +kernel
theorem dX7_course_6 : decode cX7_course 6 = .ok (.getfield 12, 3) := by decide +kernel
theorem dX7_course_9 : decode cX7_course 9 = .ok (.getfield 106, 3) := by decide +kernel
theorem dX7_course_12 : decode cX7_course 12 = .ok (.iload_n 1, 1) := by decide +kernel
theorem dX7_course_13 : decode cX7_course 13 = .ok (.invokevirtual 183, 3) := by decide +kernel
theorem dX7_course_16 : decode cX7_course 16 = .ok (.lreturn, 1) := by decide +kernel
theorem dX7_amountFor_0 : decode cX7_amountFor 0 = .ok (.aload_n 0, 1) := by decide +kernel
theorem dX7_amountFor_1 : decode cX7_amountFor 1 = .ok (.iload_n 1, 1) := by decide +kernel
theorem dX7_amountFor_2 : decode cX7_amountFor 2 = .ok (.invokevirtual 54, 3) := by decide +kernel
theorem dX7_amountFor_5 : decode cX7_amountFor 5 = .ok (.aload_n 0, 1) := by decide +kernel
theorem dX7_amountFor_6 : decode cX7_amountFor 6 = .ok (.iload_n 2, 1) := by decide +kernel
theorem dX7_amountFor_7 : decode cX7_amountFor 7 = .ok (.invokevirtual 54, 3) := by decide +kernel
theorem dX7_amountFor_10 : decode cX7_amountFor 10 = .ok (.aload_n 0, 1) := by decide +kernel
theorem dX7_amountFor_11 : decode cX7_amountFor 11 = .ok (.iload_n 1, 1) := by decide +kernel
theorem dX7_amountFor_12 : decode cX7_amountFor 12 = .ok (.iconst 0, 1) := by decide +kernel
theorem dX7_amountFor_13 : decode cX7_amountFor 13 = .ok (.iload_n 2, 1) := by decide +kernel
theorem dX7_amountFor_14 : decode cX7_amountFor 14 = .ok (.invokevirtual 186, 3) := by decide +kernel
theorem dX7_amountFor_17 : decode cX7_amountFor 17 = .ok (.ifCond .eq 5, 3) := by decide +kernel
theorem dX7_amountFor_20 : decode cX7_amountFor 20 = .ok (.iconst 0, 1) := by decide +kernel
theorem dX7_amountFor_21 : decode cX7_amountFor 21 = .ok (.ireturn, 1) := by decide +kernel
theorem dX7_amountFor_22 : decode cX7_amountFor 22 = .ok (.aload_n 0, 1) := by decide +kernel
theorem dX7_amountFor_23 : decode cX7_amountFor 23 = .ok (.iload_n 1, 1) := by decide +kernel
theorem dX7_amountFor_24 : decode cX7_amountFor 24 = .ok (.ldc 124, 2) := by decide +kernel
theorem dX7_amountFor_26 : decode cX7_amountFor 26 = .ok (.iload_n 2, 1) := by decide +kernel
theorem dX7_amountFor_27 : decode cX7_amountFor 27 = .ok (.invokevirtual 186, 3) := by decide +kernel
theorem dX7_amountFor_30 : decode cX7_amountFor 30 = .ok (.ifCond .ne 5, 3) := by decide +kernel
theorem dX7_amountFor_33 : decode cX7_amountFor 33 = .ok (.iconst (-1), 1) := by decide +kernel
theorem dX7_amountFor_34 : decode cX7_amountFor 34 = .ok (.ireturn, 1) := by decide +kernel
theorem dX7_amountFor_35 : decode cX7_amountFor 35 = .ok (.iconst 0, 1) := by decide +kernel
theorem dX7_amountFor_36 : decode cX7_amountFor 36 = .ok (.istore_n 3, 1) := by decide +kernel
theorem dX7_amountFor_37 : decode cX7_amountFor 37 = .ok (.ldc 124, 2) := by decide +kernel
theorem dX7_amountFor_39 : decode cX7_amountFor 39 = .ok (.istore 4, 2) := by decide +kernel
theorem dX7_amountFor_41 : decode cX7_amountFor 41 = .ok (.iconst 0, 1) := by decide +kernel
theorem dX7_amountFor_42 : decode cX7_amountFor 42 = .ok (.istore 5, 2) := by decide +kernel
theorem dX7_amountFor_44 : decode cX7_amountFor 44 = .ok (.iload 5, 2) := by decide +kernel
theorem dX7_amountFor_46 : decode cX7_amountFor 46 = .ok (.ldc 124, 2) := by decide +kernel
theorem dX7_amountFor_48 : decode cX7_amountFor 48 = .ok (.if_icmp .ge 46, 3) := by decide +kernel
theorem dX7_amountFor_51 : decode cX7_amountFor 51 = .ok (.iload 4, 2) := by decide +kernel
theorem dX7_amountFor_53 : decode cX7_amountFor 53 = .ok (.iload_n 3, 1) := by decide +kernel
theorem dX7_amountFor_54 : decode cX7_amountFor 54 = .ok (.isub, 1) := by decide +kernel
theorem dX7_amountFor_55 : decode cX7_amountFor 55 = .ok (.iconst 1, 1) := by decide +kernel
theorem dX7_amountFor_56 : decode cX7_amountFor 56 = .ok (.if_icmp .le 38, 3) := by decide +kernel
theorem dX7_amountFor_59 : decode cX7_amountFor 59 = .ok (.iload_n 3, 1) := by decide +kernel
theorem dX7_amountFor_60 : decode cX7_amountFor 60 = .ok (.iload 4, 2) := by decide +kernel
theorem dX7_amountFor_62 : decode cX7_amountFor 62 = .ok (.iadd, 1) := by decide +kernel
theorem dX7_amountFor_63 : decode cX7_amountFor 63 = .ok (.iconst 2, 1) := by decide +kernel
theorem dX7_amountFor_64 : decode cX7_amountFor 64 = .ok (.idiv, 1) := by decide +kernel
theorem dX7_amountFor_65 : decode cX7_amountFor 65 = .ok (.istore 6, 2) := by decide +kernel
theorem dX7_amountFor_67 : decode cX7_amountFor 67 = .ok (.aload_n 0, 1) := by decide +kernel
theorem dX7_amountFor_68 : decode cX7_amountFor 68 = .ok (.iload_n 1, 1) := by decide +kernel
theorem dX7_amountFor_69 : decode cX7_amountFor 69 = .ok (.iload 6, 2) := by decide +kernel
theorem dX7_amountFor_71 : decode cX7_amountFor 71 = .ok (.iload_n 2, 1) := by decide +kernel
theorem dX7_amountFor_72 : decode cX7_amountFor 72 = .ok (.invokevirtual 186, 3) := by decide +kernel
theorem dX7_amountFor_75 : decode cX7_amountFor 75 = .ok (.ifCond .eq 10, 3) := by decide +kernel
theorem dX7_amountFor_78 : decode cX7_amountFor 78 = .ok (.iload 6, 2) := by decide +kernel
theorem dX7_amountFor_80 : decode cX7_amountFor 80 = .ok (.istore 4, 2) := by decide +kernel
theorem dX7_amountFor_82 : decode cX7_amountFor 82 = .ok (.goto 6, 3) := by decide +kernel
theorem dX7_amountFor_85 : decode cX7_amountFor 85 = .ok (.iload 6, 2) := by decide +kernel
theorem dX7_amountFor_87 : decode cX7_amountFor 87 = .ok (.istore_n 3, 1) := by decide +kernel
theorem dX7_amountFor_88 : decode cX7_amountFor 88 = .ok (.iinc 5 1, 3) := by decide +kernel
theorem dX7_amountFor_91 : decode cX7_amountFor 91 = .ok (.goto (-47), 3) := by decide +kernel
theorem dX7_amountFor_94 : decode cX7_amountFor 94 = .ok (.iload 4, 2) := by decide +kernel
theorem dX7_amountFor_96 : decode cX7_amountFor 96 = .ok (.ireturn, 1) := by decide +kernel
theorem dX7_append_0 : decode cX7_append 0 = .ok (.iload_n 1, 1) := by decide +kernel
theorem dX7_append_1 : decode cX7_append 1 = .ok (.iconst 0, 1) := by decide +kernel
theorem dX7_append_2 : decode cX7_append 2 = .ok (.bipush 127, 2) := by decide +kernel
theorem dX7_append_4 : decode cX7_append 4 = .ok (.invokestatic 43, 3) := by decide +kernel
theorem dX7_append_7 : decode cX7_append 7 = .ok (.aload_n 0, 1) := by decide +kernel
theorem dX7_append_8 : decode cX7_append 8 = .ok (.getfield 26, 3) := by decide +kernel
theorem dX7_append_11 : decode cX7_append 11 = .ok (.getfield 197, 3) := by decide +kernel
theorem dX7_append_14 : decode cX7_append 14 = .ok (.sipush 150, 3) := by decide +kernel
theorem dX7_append_17 : decode cX7_append 17 = .ok (.if_icmp .lt 13, 3) := by decide +kernel
theorem dX7_append_20 : decode cX7_append 20 = .ok (.new 200, 3) := by decide +kernel
theorem dX7_append_23 : decode cX7_append 23 = .ok (.dup, 1) := by decide +kernel
theorem dX7_append_24 : decode cX7_append 24 = .ok (.ldc 202, 2) := by decide +kernel
theorem dX7_append_26 : decode cX7_append 26 = .ok (.invokespecial 204, 3) := by decide +kernel
theorem dX7_append_29 : decode cX7_append 29 = .ok (.athrow, 1) := by decide +kernel
theorem dX7_append_30 : decode cX7_append 30 = .ok (.aload_n 0, 1) := by decide +kernel
theorem dX7_append_31 : decode cX7_append 31 = .ok (.getfield 26, 3) := by decide +kernel
theorem dX7_append_34 : decode cX7_append 34 = .ok (.iload_n 1, 1) := by decide +kernel
theorem dX7_append_35 : decode cX7_append 35 = .ok (.invokevirtual 207, 3) := by decide +kernel
theorem dX7_append_38 : decode cX7_append 38 = .ok (.aload_n 0, 1) := by decide +kernel
theorem dX7_append_39 : decode cX7_append 39 = .ok (.getfield 26, 3) := by decide +kernel
theorem dX7_append_42 : decode cX7_append 42 = .ok (.getfield 197, 3) := by decide +kernel
theorem dX7_append_45 : decode cX7_append 45 = .ok (.ireturn, 1) := by decide +kernel
theorem dX7_clearText_0 : decode cX7_clearText 0 = .ok (.aload_n 0, 1) := by decide +kernel
theorem dX7_clearText_1 : decode cX7_clearText 1 = .ok (.getfield 26, 3) := by decide +kernel
theorem dX7_clearText_4 : decode cX7_clearText 4 = .ok (.getfield 197, 3) := by decide +kernel
theorem dX7_clearText_7 : decode cX7_clearText 7 = .ok (.istore_n 1, 1) := by decide +kernel
theorem dX7_clearText_8 : decode cX7_clearText 8 = .ok (.aload_n 0, 1) := by decide +kernel
theorem dX7_clearText_9 : decode cX7_clearText 9 = .ok (.getfield 26, 3) := by decide +kernel
theorem dX7_clearText_12 : decode cX7_clearText 12 = .ok (.iconst 0, 1) := by decide +kernel
theorem dX7_clearText_13 : decode cX7_clearText 13 = .ok (.putfield 197, 3) := by decide +kernel
theorem dX7_clearText_16 : decode cX7_clearText 16 = .ok (.iload_n 1, 1) := by decide +kernel
theorem dX7_clearText_17 : decode cX7_clearText 17 = .ok (.ireturn, 1) := by decide +kernel
theorem dX7_parse_0 : decode cX7_parse 0 = .ok (.aload_n 0, 1) := by decide +kernel
theorem dX7_parse_1 : decode cX7_parse 1 = .ok (.getfield 26, 3) := by decide +kernel
theorem dX7_parse_4 : decode cX7_parse 4 = .ok (.aload_n 0, 1) := by decide +kernel
theorem dX7_parse_5 : decode cX7_parse 5 = .ok (.getfield 16, 3) := by decide +kernel
theorem dX7_parse_8 : decode cX7_parse 8 = .ok (.getfield 30, 3) := by decide +kernel
theorem dX7_parse_11 : decode cX7_parse 11 = .ok (.invokevirtual 210, 3) := by decide +kernel
theorem dX7_parse_14 : decode cX7_parse 14 = .ok (.istore_n 1, 1) := by decide +kernel
theorem dX7_parse_15 : decode cX7_parse 15 = .ok (.iload_n 1, 1) := by decide +kernel
theorem dX7_parse_16 : decode cX7_parse 16 = .ok (.iconst (-1), 1) := by decide +kernel
theorem dX7_parse_17 : decode cX7_parse 17 = .ok (.if_icmp .eq 8, 3) := by decide +kernel
theorem dX7_parse_20 : decode cX7_parse 20 = .ok (.bipush (-10), 2) := by decide +kernel
theorem dX7_parse_22 : decode cX7_parse 22 = .ok (.iload_n 1, 1) := by decide +kernel
theorem dX7_parse_23 : decode cX7_parse 23 = .ok (.isub, 1) := by decide +kernel
theorem dX7_parse_24 : decode cX7_parse 24 = .ok (.ireturn, 1) := by decide +kernel
theorem dX7_parse_25 : decode cX7_parse 25 = .ok (.aload_n 0, 1) := by decide +kernel
theorem dX7_parse_26 : decode cX7_parse 26 = .ok (.invokevirtual 47, 3) := by decide +kernel
theorem dX7_parse_29 : decode cX7_parse 29 = .ok (.aload_n 0, 1) := by decide +kernel
theorem dX7_parse_30 : decode cX7_parse 30 = .ok (.getfield 12, 3) := by decide +kernel
theorem dX7_parse_33 : decode cX7_parse 33 = .ok (.getfield 30, 3) := by decide +kernel
theorem dX7_parse_36 : decode cX7_parse 36 = .ok (.aload_n 0, 1) := by decide +kernel
theorem dX7_parse_37 : decode cX7_parse 37 = .ok (.getfield 16, 3) := by decide +kernel
theorem dX7_parse_40 : decode cX7_parse 40 = .ok (.getfield 30, 3) := by decide +kernel
theorem dX7_parse_43 : decode cX7_parse 43 = .ok (.invokevirtual 214, 3) := by decide +kernel
theorem dX7_parse_46 : decode cX7_parse 46 = .ok (.aload_n 0, 1) := by decide +kernel
theorem dX7_parse_47 : decode cX7_parse 47 = .ok (.getfield 12, 3) := by decide +kernel
theorem dX7_parse_50 : decode cX7_parse 50 = .ok (.invokevirtual 40, 3) := by decide +kernel
theorem dX7_parse_53 : decode cX7_parse 53 = .ok (.aload_n 0, 1) := by decide +kernel
theorem dX7_parse_54 : decode cX7_parse 54 = .ok (.getfield 12, 3) := by decide +kernel
theorem dX7_parse_57 : decode cX7_parse 57 = .ok (.getfield 106, 3) := by decide +kernel
theorem dX7_parse_60 : decode cX7_parse 60 = .ok (.getfield 110, 3) := by decide +kernel
theorem dX7_parse_63 : decode cX7_parse 63 = .ok (.ireturn, 1) := by decide +kernel
theorem dX7_undo_0 : decode cX7_undo 0 = .ok (.aload_n 0, 1) := by decide +kernel
theorem dX7_undo_1 : decode cX7_undo 1 = .ok (.getfield 217, 3) := by decide +kernel
theorem dX7_undo_4 : decode cX7_undo 4 = .ok (.ifCond .gt 13, 3) := by decide +kernel
theorem dX7_undo_7 : decode cX7_undo 7 = .ok (.new 200, 3) := by decide +kernel
theorem dX7_undo_10 : decode cX7_undo 10 = .ok (.dup, 1) := by decide +kernel
theorem dX7_undo_11 : decode cX7_undo 11 = .ok (.ldc 220, 2) := by decide +kernel
theorem dX7_undo_13 : decode cX7_undo 13 = .ok (.invokespecial 204, 3) := by decide +kernel
theorem dX7_undo_16 : decode cX7_undo 16 = .ok (.athrow, 1) := by decide +kernel
theorem dX7_undo_17 : decode cX7_undo 17 = .ok (.aload_n 0, 1) := by decide +kernel
theorem dX7_undo_18 : decode cX7_undo 18 = .ok (.aload_n 0, 1) := by decide +kernel
theorem dX7_undo_19 : decode cX7_undo 19 = .ok (.getfield 222, 3) := by decide +kernel
theorem dX7_undo_22 : decode cX7_undo 22 = .ok (.iconst 4, 1) := by decide +kernel
theorem dX7_undo_23 : decode cX7_undo 23 = .ok (.iadd, 1) := by decide +kernel
theorem dX7_undo_24 : decode cX7_undo 24 = .ok (.iconst 1, 1) := by decide +kernel
theorem dX7_undo_25 : decode cX7_undo 25 = .ok (.isub, 1) := by decide +kernel
theorem dX7_undo_26 : decode cX7_undo 26 = .ok (.iconst 4, 1) := by decide +kernel
theorem dX7_undo_27 : decode cX7_undo 27 = .ok (.irem, 1) := by decide +kernel
theorem dX7_undo_28 : decode cX7_undo 28 = .ok (.putfield 222, 3) := by decide +kernel
theorem dX7_undo_31 : decode cX7_undo 31 = .ok (.aload_n 0, 1) := by decide +kernel
theorem dX7_undo_32 : decode cX7_undo 32 = .ok (.dup, 1) := by decide +kernel
theorem dX7_undo_33 : decode cX7_undo 33 = .ok (.getfield 217, 3) := by decide +kernel
theorem dX7_undo_36 : decode cX7_undo 36 = .ok (.iconst 1, 1) := by decide +kernel
theorem dX7_undo_37 : decode cX7_undo 37 = .ok (.isub, 1) := by decide +kernel
theorem dX7_undo_38 : decode cX7_undo 38 = .ok (.putfield 217, 3) := by decide +kernel
theorem dX7_undo_41 : decode cX7_undo 41 = .ok (.aload_n 0, 1) := by decide +kernel
theorem dX7_undo_42 : decode cX7_undo 42 = .ok (.getfield 12, 3) := by decide +kernel
theorem dX7_undo_45 : decode cX7_undo 45 = .ok (.aload_n 0, 1) := by decide +kernel
theorem dX7_undo_46 : decode cX7_undo 46 = .ok (.aload_n 0, 1) := by decide +kernel
theorem dX7_undo_47 : decode cX7_undo 47 = .ok (.getfield 222, 3) := by decide +kernel
theorem dX7_undo_50 : decode cX7_undo 50 = .ok (.invokevirtual 225, 3) := by decide +kernel
theorem dX7_undo_53 : decode cX7_undo 53 = .ok (.invokevirtual 190, 3) := by decide +kernel
theorem dX7_undo_56 : decode cX7_undo 56 = .ok (.aload_n 0, 1) := by decide +kernel
theorem dX7_undo_57 : decode cX7_undo 57 = .ok (.getfield 217, 3) := by decide +kernel
theorem dX7_undo_60 : decode cX7_undo 60 = .ok (.ireturn, 1) := by decide +kernel
theorem dX7_digest_0 : decode cX7_digest 0 = .ok (.ldc2_w 229, 3) := by decide +kernel
theorem dX7_digest_3 : decode cX7_digest 3 = .ok (.aload_n 0, 1) := by decide +kernel
theorem dX7_digest_4 : decode cX7_digest 4 = .ok (.getfield 26, 3) := by decide +kernel
theorem dX7_digest_7 : decode cX7_digest 7 = .ok (.getfield 197, 3) := by decide +kernel
theorem dX7_digest_10 : decode cX7_digest 10 = .ok (.i2l, 1) := by decide +kernel
theorem dX7_digest_11 : decode cX7_digest 11 = .ok (.invokestatic 231, 3) := by decide +kernel
theorem dX7_digest_14 : decode cX7_digest 14 = .ok (.lstore_n 1, 1) := by decide +kernel
theorem dX7_digest_15 : decode cX7_digest 15 = .ok (.iconst 0, 1) := by decide +kernel
theorem dX7_digest_16 : decode cX7_digest 16 = .ok (.istore_n 3, 1) := by decide +kernel
theorem dX7_digest_17 : decode cX7_digest 17 = .ok (.iload_n 3, 1) := by decide +kernel
theorem dX7_digest_18 : decode cX7_digest 18 = .ok (.bipush 6, 2) := by decide +kernel
theorem dX7_digest_20 : decode cX7_digest 20 = .ok (.if_icmp .gt 20, 3) := by decide +kernel
theorem dX7_digest_23 : decode cX7_digest 23 = .ok (.lload_n 1, 1) := by decide +kernel
theorem dX7_digest_24 : decode cX7_digest 24 = .ok (.aload_n 0, 1) := by decide +kernel
theorem dX7_digest_25 : decode cX7_digest 25 = .ok (.iload_n 3, 1) := by decide +kernel
theorem dX7_digest_26 : decode cX7_digest 26 = .ok (.invokevirtual 121, 3) := by decide +kernel
theorem dX7_digest_29 : decode cX7_digest 29 = .ok (.i2l, 1) := by decide +kernel
theorem dX7_digest_30 : decode cX7_digest 30 = .ok (.invokestatic 231, 3) := by decide +kernel
theorem dX7_digest_33 : decode cX7_digest 33 = .ok (.lstore_n 1, 1) := by decide +kernel
theorem dX7_digest_34 : decode cX7_digest 34 = .ok (.iinc 3 1, 3) := by decide +kernel
theorem dX7_digest_37 : decode cX7_digest 37 = .ok (.goto (-20), 3) := by decide +kernel
theorem dX7_digest_40 : decode cX7_digest 40 = .ok (.iconst 0, 1) := by decide +kernel
theorem dX7_digest_41 : decode cX7_digest 41 = .ok (.istore_n 3, 1) := by decide +kernel
theorem dX7_digest_42 : decode cX7_digest 42 = .ok (.iload_n 3, 1) := by decide +kernel
theorem dX7_digest_43 : decode cX7_digest 43 = .ok (.aload_n 0, 1) := by decide +kernel
theorem dX7_digest_44 : decode cX7_digest 44 = .ok (.getfield 12, 3) := by decide +kernel
theorem dX7_digest_47 : decode cX7_digest 47 = .ok (.getfield 30, 3) := by decide +kernel
theorem dX7_digest_50 : decode cX7_digest 50 = .ok (.getfield 50, 3) := by decide +kernel
theorem dX7_digest_53 : decode cX7_digest 53 = .ok (.if_icmp .ge 37, 3) := by decide +kernel
theorem dX7_digest_56 : decode cX7_digest 56 = .ok (.iconst 0, 1) := by decide +kernel
theorem dX7_digest_57 : decode cX7_digest 57 = .ok (.istore 4, 2) := by decide +kernel
theorem dX7_digest_59 : decode cX7_digest 59 = .ok (.iload 4, 2) := by decide +kernel
theorem dX7_digest_61 : decode cX7_digest 61 = .ok (.iconst 5, 1) := by decide +kernel
theorem dX7_digest_62 : decode cX7_digest 62 = .ok (.if_icmp .gt 22, 3) := by decide +kernel
theorem dX7_digest_65 : decode cX7_digest 65 = .ok (.lload_n 1, 1) := by decide +kernel
theorem dX7_digest_66 : decode cX7_digest 66 = .ok (.aload_n 0, 1) := by decide +kernel
theorem dX7_digest_67 : decode cX7_digest 67 = .ok (.iload_n 3, 1) := by decide +kernel
theorem dX7_digest_68 : decode cX7_digest 68 = .ok (.iload 4, 2) := by decide +kernel
theorem dX7_digest_70 : decode cX7_digest 70 = .ok (.invokevirtual 115, 3) := by decide +kernel
theorem dX7_digest_73 : decode cX7_digest 73 = .ok (.i2l, 1) := by decide +kernel
theorem dX7_digest_74 : decode cX7_digest 74 = .ok (.invokestatic 231, 3) := by decide +kernel
theorem dX7_digest_77 : decode cX7_digest 77 = .ok (.lstore_n 1, 1) := by decide +kernel
theorem dX7_digest_78 : decode cX7_digest 78 = .ok (.iinc 4 1, 3) := by decide +kernel
theorem dX7_digest_81 : decode cX7_digest 81 = .ok (.goto (-22), 3) := by decide +kernel
theorem dX7_digest_84 : decode cX7_digest 84 = .ok (.iinc 3 1, 3) := by decide +kernel
theorem dX7_digest_87 : decode cX7_digest 87 = .ok (.goto (-45), 3) := by decide +kernel
theorem dX7_digest_90 : decode cX7_digest 90 = .ok (.aload_n 0, 1) := by decide +kernel
theorem dX7_digest_91 : decode cX7_digest 91 = .ok (.getfield 12, 3) := by decide +kernel
theorem dX7_digest_94 : decode cX7_digest 94 = .ok (.getfield 143, 3) := by decide +kernel
theorem dX7_digest_97 : decode cX7_digest 97 = .ok (.invokevirtual 158, 3) := by decide +kernel
theorem dX7_digest_100 : decode cX7_digest 100 = .ok (.istore_n 3, 1) := by decide +kernel
theorem dX7_digest_101 : decode cX7_digest 101 = .ok (.iconst 0, 1) := by decide +kernel
theorem dX7_digest_102 : decode cX7_digest 102 = .ok (.istore 4, 2) := by decide +kernel
theorem dX7_digest_104 : decode cX7_digest 104 = .ok (.iload 4, 2) := by decide +kernel
theorem dX7_digest_106 : decode cX7_digest 106 = .ok (.iload_n 3, 1) := by decide +kernel
theorem dX7_digest_107 : decode cX7_digest 107 = .ok (.if_icmp .ge 27, 3) := by decide +kernel
theorem dX7_digest_110 : decode cX7_digest 110 = .ok (.aload_n 0, 1) := by decide +kernel
theorem dX7_digest_111 : decode cX7_digest 111 = .ok (.lload_n 1, 1) := by decide +kernel
theorem dX7_digest_112 : decode cX7_digest 112 = .ok (.aload_n 0, 1) := by decide +kernel
theorem dX7_digest_113 : decode cX7_digest 113 = .ok (.getfield 12, 3) := by decide +kernel
theorem dX7_digest_116 : decode cX7_digest 116 = .ok (.getfield 143, 3) := by decide +kernel
theorem dX7_digest_119 : decode cX7_digest 119 = .ok (.iload 4, 2) := by decide +kernel
theorem dX7_digest_121 : decode cX7_digest 121 = .ok (.invokevirtual 235, 3) := by decide +kernel
theorem dX7_digest_124 : decode cX7_digest 124 = .ok (.invokevirtual 238, 3) := by decide +kernel
theorem dX7_digest_127 : decode cX7_digest 127 = .ok (.lstore_n 1, 1) := by decide +kernel
theorem dX7_digest_128 : decode cX7_digest 128 = .ok (.iinc 4 1, 3) := by decide +kernel
theorem dX7_digest_131 : decode cX7_digest 131 = .ok (.goto (-27), 3) := by decide +kernel
theorem dX7_digest_134 : decode cX7_digest 134 = .ok (.iconst 0, 1) := by decide +kernel
theorem dX7_digest_135 : decode cX7_digest 135 = .ok (.istore 4, 2) := by decide +kernel
theorem dX7_digest_137 : decode cX7_digest 137 = .ok (.iload 4, 2) := by decide +kernel
theorem dX7_digest_139 : decode cX7_digest 139 = .ok (.iconst 3, 1) := by decide +kernel
theorem dX7_digest_140 : decode cX7_digest 140 = .ok (.if_icmp .gt 20, 3) := by decide +kernel
theorem dX7_digest_143 : decode cX7_digest 143 = .ok (.lload_n 1, 1) := by decide +kernel
theorem dX7_digest_144 : decode cX7_digest 144 = .ok (.aload_n 0, 1) := by decide +kernel
theorem dX7_digest_145 : decode cX7_digest 145 = .ok (.iload 4, 2) := by decide +kernel
theorem dX7_digest_147 : decode cX7_digest 147 = .ok (.invokevirtual 162, 3) := by decide +kernel
theorem dX7_digest_150 : decode cX7_digest 150 = .ok (.invokestatic 231, 3) := by decide +kernel
theorem dX7_digest_153 : decode cX7_digest 153 = .ok (.lstore_n 1, 1) := by decide +kernel
theorem dX7_digest_154 : decode cX7_digest 154 = .ok (.iinc 4 1, 3) := by decide +kernel
theorem dX7_digest_157 : decode cX7_digest 157 = .ok (.goto (-20), 3) := by decide +kernel
theorem dX7_digest_160 : decode cX7_digest 160 = .ok (.lload_n 1, 1) := by decide +kernel
theorem dX7_digest_161 : decode cX7_digest 161 = .ok (.aload_n 0, 1) := by decide +kernel
theorem dX7_digest_162 : decode cX7_digest 162 = .ok (.getfield 217, 3) := by decide +kernel
theorem dX7_digest_165 : decode cX7_digest 165 = .ok (.i2l, 1) := by decide +kernel
theorem dX7_digest_166 : decode cX7_digest 166 = .ok (.invokestatic 231, 3) := by decide +kernel
theorem dX7_digest_169 : decode cX7_digest 169 = .ok (.lreturn, 1) := by decide +kernel
theorem dX7_needCell_0 : decode cX7_needCell 0 = .ok (.aload_n 0, 1) := by decide +kernel
theorem dX7_needCell_1 : decode cX7_needCell 1 = .ok (.getfield 12, 3) := by decide +kernel
theorem dX7_needCell_4 : decode cX7_needCell 4 = .ok (.getfield 30, 3) := by decide +kernel
theorem dX7_needCell_7 : decode cX7_needCell 7 = .ok (.iload_n 1, 1) := by decide +kernel
theorem dX7_needCell_8 : decode cX7_needCell 8 = .ok (.invokevirtual 242, 3) := by decide +kernel
theorem dX7_needCell_11 : decode cX7_needCell 11 = .ok (.ifCond .ne 13, 3) := by decide +kernel
theorem dX7_needCell_14 : decode cX7_needCell 14 = .ok (.new 246, 3) := by decide +kernel
theorem dX7_needCell_17 : decode cX7_needCell 17 = .ok (.dup, 1) := by decide +kernel
theorem dX7_needCell_18 : decode cX7_needCell 18 = .ok (.ldc 248, 2) := by decide +kernel
theorem dX7_needCell_20 : decode cX7_needCell 20 = .ok (.invokespecial 250, 3) := by decide +kernel
theorem dX7_needCell_23 : decode cX7_needCell 23 = .ok (.athrow, 1) := by decide +kernel
theorem dX7_needCell_24 : decode cX7_needCell 24 = .ok (.return_, 1) := by decide +kernel
theorem dX7_needRoom_0 : decode cX7_needRoom 0 = .ok (.aload_n 0, 1) := by decide +kernel
theorem dX7_needRoom_1 : decode cX7_needRoom 1 = .ok (.getfield 12, 3) := by decide +kernel
theorem dX7_needRoom_4 : decode cX7_needRoom 4 = .ok (.getfield 143, 3) := by decide +kernel
theorem dX7_needRoom_7 : decode cX7_needRoom 7 = .ok (.invokevirtual 255, 3) := by decide +kernel
theorem dX7_needRoom_10 : decode cX7_needRoom 10 = .ok (.iload_n 1, 1) := by decide +kernel
theorem dX7_needRoom_11 : decode cX7_needRoom 11 = .ok (.iadd, 1) := by decide +kernel
theorem dX7_needRoom_12 : decode cX7_needRoom 12 = .ok (.ldc_w 258, 3) := by decide +kernel
theorem dX7_needRoom_15 : decode cX7_needRoom 15 = .ok (.if_icmp .le 14, 3) := by decide +kernel
theorem dX7_needRoom_18 : decode cX7_needRoom 18 = .ok (.new 200, 3) := by decide +kernel
theorem dX7_needRoom_21 : decode cX7_needRoom 21 = .ok (.dup, 1) := by decide +kernel
theorem dX7_needRoom_22 : decode cX7_needRoom 22 = .ok (.ldc_w 259, 3) := by decide +kernel
theorem dX7_needRoom_25 : decode cX7_needRoom 25 = .ok (.invokespecial 204, 3) := by decide +kernel
theorem dX7_needRoom_28 : decode cX7_needRoom 28 = .ok (.athrow, 1) := by decide +kernel
theorem dX7_needRoom_29 : decode cX7_needRoom 29 = .ok (.return_, 1) := by decide +kernel
theorem dX7_needWithin_0 : decode cX7_needWithin 0 = .ok (.iload_n 0, 1) := by decide +kernel
theorem dX7_needWithin_1 : decode cX7_needWithin 1 = .ok (.iload_n 1, 1) := by decide +kernel
theorem dX7_needWithin_2 : decode cX7_needWithin 2 = .ok (.if_icmp .lt 8, 3) := by decide +kernel
theorem dX7_needWithin_5 : decode cX7_needWithin 5 = .ok (.iload_n 0, 1) := by decide +kernel
theorem dX7_needWithin_6 : decode cX7_needWithin 6 = .ok (.iload_n 2, 1) := by decide +kernel
theorem dX7_needWithin_7 : decode cX7_needWithin 7 = .ok (.if_icmp .le 14, 3) := by decide +kernel
theorem dX7_needWithin_10 : decode cX7_needWithin 10 = .ok (.new 261, 3) := by decide +kernel
theorem dX7_needWithin_13 : decode cX7_needWithin 13 = .ok (.dup, 1) := by decide +kernel
theorem dX7_needWithin_14 : decode cX7_needWithin 14 = .ok (.ldc_w 263, 3) := by decide +kernel
theorem dX7_needWithin_17 : decode cX7_needWithin 17 = .ok (.invokespecial 265, 3) := by decide +kernel
theorem dX7_needWithin_20 : decode cX7_needWithin 20 = .ok (.athrow, 1) := by decide +kernel
theorem dX7_needWithin_21 : decode cX7_needWithin 21 = .ok (.return_, 1) := by decide +kernel
theorem dX7_save_0 : decode cX7_save 0 = .ok (.aload_n 0, 1) := by decide +kernel
theorem dX7_save_1 : decode cX7_save 1 = .ok (.aload_n 0, 1) := by decide +kernel
theorem dX7_save_2 : decode cX7_save 2 = .ok (.getfield 222, 3) := by decide +kernel
theorem dX7_save_5 : decode cX7_save 5 = .ok (.invokevirtual 225, 3) := by decide +kernel
theorem dX7_save_8 : decode cX7_save 8 = .ok (.aload_n 0, 1) := by decide +kernel
theorem dX7_save_9 : decode cX7_save 9 = .ok (.getfield 12, 3) := by decide +kernel
theorem dX7_save_12 : decode cX7_save 12 = .ok (.invokevirtual 190, 3) := by decide +kernel
theorem dX7_save_15 : decode cX7_save 15 = .ok (.aload_n 0, 1) := by decide +kernel
theorem dX7_save_16 : decode cX7_save 16 = .ok (.aload_n 0, 1) := by decide +kernel
theorem dX7_save_17 : decode cX7_save 17 = .ok (.getfield 222, 3) := by decide +kernel
theorem dX7_save_20 : decode cX7_save 20 = .ok (.iconst 1, 1) := by decide +kernel
theorem dX7_save_21 : decode cX7_save 21 = .ok (.iadd, 1) := by decide +kernel
theorem dX7_save_22 : decode cX7_save 22 = .ok (.iconst 4, 1) := by decide +kernel
theorem dX7_save_23 : decode cX7_save 23 = .ok (.irem, 1) := by decide +kernel
theorem dX7_save_24 : decode cX7_save 24 = .ok (.putfield 222, 3) := by decide +kernel
theorem dX7_save_27 : decode cX7_save 27 = .ok (.aload_n 0, 1) := by decide +kernel
theorem dX7_save_28 : decode cX7_save 28 = .ok (.aload_n 0, 1) := by decide +kernel
theorem dX7_save_29 : decode cX7_save 29 = .ok (.getfield 217, 3) := by decide +kernel
theorem dX7_save_32 : decode cX7_save 32 = .ok (.iconst 1, 1) := by decide +kernel
theorem dX7_save_33 : decode cX7_save 33 = .ok (.iadd, 1) := by decide +kernel
theorem dX7_save_34 : decode cX7_save 34 = .ok (.iconst 4, 1) := by decide +kernel
theorem dX7_save_35 : decode cX7_save 35 = .ok (.invokestatic 266, 3) := by decide +kernel
theorem dX7_save_38 : decode cX7_save 38 = .ok (.putfield 217, 3) := by decide +kernel
theorem dX7_save_41 : decode cX7_save 41 = .ok (.return_, 1) := by decide +kernel
theorem dX7_savedAt_0 : decode cX7_savedAt 0 = .ok (.iload_n 1, 1) := by decide +kernel
theorem dX7_savedAt_1 : decode cX7_savedAt 1 = .ok (.ifCond .lt 21, 3) := by decide +kernel
theorem dX7_savedAt_4 : decode cX7_savedAt 4 = .ok (.iload_n 1, 1) := by decide +kernel
theorem dX7_savedAt_5 : decode cX7_savedAt 5 = .ok (.aload_n 0, 1) := by decide +kernel
theorem dX7_savedAt_6 : decode cX7_savedAt 6 = .ok (.getfield 19, 3) := by decide +kernel
theorem dX7_savedAt_9 : decode cX7_savedAt 9 = .ok (.arraylength, 1) := by decide +kernel
theorem dX7_savedAt_10 : decode cX7_savedAt 10 = .ok (.if_icmp .ge 12, 3) := by decide +kernel
theorem dX7_savedAt_13 : decode cX7_savedAt 13 = .ok (.aload_n 0, 1) := by decide +kernel
theorem dX7_savedAt_14 : decode cX7_savedAt 14 = .ok (.getfield 19, 3) := by decide +kernel
theorem dX7_savedAt_17 : decode cX7_savedAt 17 = .ok (.iload_n 1, 1) := by decide +kernel
theorem dX7_savedAt_18 : decode cX7_savedAt 18 = .ok (.aaload, 1) := by decide +kernel
theorem dX7_savedAt_19 : decode cX7_savedAt 19 = .ok (.goto 4, 3) := by decide +kernel
theorem dX7_savedAt_22 : decode cX7_savedAt 22 = .ok (.aconst_null, 1) := by decide +kernel
theorem dX7_savedAt_23 : decode cX7_savedAt 23 = .ok (.astore_n 2, 1) := by decide +kernel
theorem dX7_savedAt_24 : decode cX7_savedAt 24 = .ok (.aload_n 2, 1) := by decide +kernel
theorem dX7_savedAt_25 : decode cX7_savedAt 25 = .ok (.ifnonnull 10, 3) := by decide +kernel
theorem dX7_savedAt_28 : decode cX7_savedAt 28 = .ok (.aload_n 0, 1) := by decide +kernel
theorem dX7_savedAt_29 : decode cX7_savedAt 29 = .ok (.getfield 16, 3) := by decide +kernel
theorem dX7_savedAt_32 : decode cX7_savedAt 32 = .ok (.goto 4, 3) := by decide +kernel
theorem dX7_savedAt_35 : decode cX7_savedAt 35 = .ok (.aload_n 2, 1) := by decide +kernel
theorem dX7_savedAt_36 : decode cX7_savedAt 36 = .ok (.areturn, 1) := by decide +kernel
theorem dX7_cellValue_0 : decode cX7_cellValue 0 = .ok (.iload_n 2, 1) := by decide +kernel
theorem dX7_cellValue_1 : decode cX7_cellValue 1 = .ok (.tableswitch 117 0 4 #[35, 50, 73, 88, 100], 35) := by decide +kernel
theorem dX7_cellValue_36 : decode cX7_cellValue 36 = .ok (.aload_n 0, 1) := by decide +kernel
theorem dX7_cellValue_37 : decode cX7_cellValue 37 = .ok (.getfield 12, 3) := by decide +kernel
theorem dX7_cellValue_40 : decode cX7_cellValue 40 = .ok (.getfield 30, 3) := by decide +kernel
theorem dX7_cellValue_43 : decode cX7_cellValue 43 = .ok (.getfield 58, 3) := by decide +kernel
theorem dX7_cellValue_46 : decode cX7_cellValue 46 = .ok (.iload_n 1, 1) := by decide +kernel
theorem dX7_cellValue_47 : decode cX7_cellValue 47 = .ok (.invokevirtual 62, 3) := by decide +kernel
theorem dX7_cellValue_50 : decode cX7_cellValue 50 = .ok (.ireturn, 1) := by decide +kernel
theorem dX7_cellValue_51 : decode cX7_cellValue 51 = .ok (.aload_n 0, 1) := by decide +kernel
theorem dX7_cellValue_52 : decode cX7_cellValue 52 = .ok (.getfield 12, 3) := by decide +kernel
theorem dX7_cellValue_55 : decode cX7_cellValue 55 = .ok (.getfield 30, 3) := by decide +kernel
theorem dX7_cellValue_58 : decode cX7_cellValue 58 = .ok (.getfield 77, 3) := by decide +kernel
theorem dX7_cellValue_61 : decode cX7_cellValue 61 = .ok (.iload_n 1, 1) := by decide +kernel
theorem dX7_cellValue_62 : decode cX7_cellValue 62 = .ok (.invokestatic 81, 3) := by decide +kernel
theorem dX7_cellValue_65 : decode cX7_cellValue 65 = .ok (.ifCond .eq 7, 3) := by decide +kernel
theorem dX7_cellValue_68 : decode cX7_cellValue 68 = .ok (.iconst 1, 1) := by decide +kernel
theorem dX7_cellValue_69 : decode cX7_cellValue 69 = .ok (.goto 4, 3) := by decide +kernel
theorem dX7_cellValue_72 : decode cX7_cellValue 72 = .ok (.iconst 0, 1) := by decide +kernel
theorem dX7_cellValue_73 : decode cX7_cellValue 73 = .ok (.ireturn, 1) := by decide +kernel
theorem dX7_cellValue_74 : decode cX7_cellValue 74 = .ok (.aload_n 0, 1) := by decide +kernel
theorem dX7_cellValue_75 : decode cX7_cellValue 75 = .ok (.getfield 12, 3) := by decide +kernel
theorem dX7_cellValue_78 : decode cX7_cellValue 78 = .ok (.getfield 106, 3) := by decide +kernel
theorem dX7_cellValue_81 : decode cX7_cellValue 81 = .ok (.getfield 271, 3) := by decide +kernel
theorem dX7_cellValue_84 : decode cX7_cellValue 84 = .ok (.iload_n 1, 1) := by decide +kernel
theorem dX7_cellValue_85 : decode cX7_cellValue 85 = .ok (.invokevirtual 62, 3) := by decide +kernel
theorem dX7_cellValue_88 : decode cX7_cellValue 88 = .ok (.ireturn, 1) := by decide +kernel
theorem dX7_cellValue_89 : decode cX7_cellValue 89 = .ok (.aload_n 0, 1) := by decide +kernel
theorem dX7_cellValue_90 : decode cX7_cellValue 90 = .ok (.getfield 12, 3) := by decide +kernel
theorem dX7_cellValue_93 : decode cX7_cellValue 93 = .ok (.getfield 143, 3) := by decide +kernel
theorem dX7_cellValue_96 : decode cX7_cellValue 96 = .ok (.iload_n 1, 1) := by decide +kernel
theorem dX7_cellValue_97 : decode cX7_cellValue 97 = .ok (.invokevirtual 274, 3) := by decide +kernel
theorem dX7_cellValue_100 : decode cX7_cellValue 100 = .ok (.ireturn, 1) := by decide +kernel
theorem dX7_cellValue_101 : decode cX7_cellValue 101 = .ok (.aload_n 0, 1) := by decide +kernel
theorem dX7_cellValue_102 : decode cX7_cellValue 102 = .ok (.getfield 12, 3) := by decide +kernel
theorem dX7_cellValue_105 : decode cX7_cellValue 105 = .ok (.iload_n 1, 1) := by decide +kernel
theorem dX7_cellValue_106 : decode cX7_cellValue 106 = .ok (.invokevirtual 277, 3) := by decide +kernel
theorem dX7_cellValue_109 : decode cX7_cellValue 109 = .ok (.ifCond .eq 7, 3) := by decide +kernel
theorem dX7_cellValue_112 : decode cX7_cellValue 112 = .ok (.iconst 1, 1) := by decide +kernel
theorem dX7_cellValue_113 : decode cX7_cellValue 113 = .ok (.goto 4, 3) := by decide +kernel
theorem dX7_cellValue_116 : decode cX7_cellValue 116 = .ok (.iconst 0, 1) := by decide +kernel
theorem dX7_cellValue_117 : decode cX7_cellValue 117 = .ok (.ireturn, 1) := by decide +kernel
theorem dX7_cellValue_118 : decode cX7_cellValue 118 = .ok (.aload_n 0, 1) := by decide +kernel
theorem dX7_cellValue_119 : decode cX7_cellValue 119 = .ok (.getfield 12, 3) := by decide +kernel
theorem dX7_cellValue_122 : decode cX7_cellValue 122 = .ok (.getfield 106, 3) := by decide +kernel
theorem dX7_cellValue_125 : decode cX7_cellValue 125 = .ok (.iload_n 1, 1) := by decide +kernel
theorem dX7_cellValue_126 : decode cX7_cellValue 126 = .ok (.invokevirtual 280, 3) := by decide +kernel
theorem dX7_cellValue_129 : decode cX7_cellValue 129 = .ok (.ifCond .eq 7, 3) := by decide +kernel
theorem dX7_cellValue_132 : decode cX7_cellValue 132 = .ok (.iconst 1, 1) := by decide +kernel
theorem dX7_cellValue_133 : decode cX7_cellValue 133 = .ok (.goto 4, 3) := by decide +kernel
theorem dX7_cellValue_136 : decode cX7_cellValue 136 = .ok (.iconst 0, 1) := by decide +kernel
theorem dX7_cellValue_137 : decode cX7_cellValue 137 = .ok (.ireturn, 1) := by decide +kernel
theorem dX7_countValue_0 : decode cX7_countValue 0 = .ok (.iload_n 1, 1) := by decide +kernel
theorem dX7_countValue_1 : decode cX7_countValue 1 = .ok (.tableswitch 99 0 5 #[39, 50, 61, 72, 83, 91], 39) := by decide +kernel
theorem dX7_countValue_40 : decode cX7_countValue 40 = .ok (.aload_n 0, 1) := by decide +kernel
theorem dX7_countValue_41 : decode cX7_countValue 41 = .ok (.getfield 12, 3) := by decide +kernel
theorem dX7_countValue_44 : decode cX7_countValue 44 = .ok (.getfield 30, 3) := by decide +kernel
theorem dX7_countValue_47 : decode cX7_countValue 47 = .ok (.getfield 283, 3) := by decide +kernel
theorem dX7_countValue_50 : decode cX7_countValue 50 = .ok (.ireturn, 1) := by decide +kernel
theorem dX7_countValue_51 : decode cX7_countValue 51 = .ok (.aload_n 0, 1) := by decide +kernel
theorem dX7_countValue_52 : decode cX7_countValue 52 = .ok (.getfield 12, 3) := by decide +kernel
theorem dX7_countValue_55 : decode cX7_countValue 55 = .ok (.getfield 30, 3) := by decide +kernel
theorem dX7_countValue_58 : decode cX7_countValue 58 = .ok (.getfield 286, 3) := by decide +kernel
theorem dX7_countValue_61 : decode cX7_countValue 61 = .ok (.ireturn, 1) := by decide +kernel
theorem dX7_countValue_62 : decode cX7_countValue 62 = .ok (.aload_n 0, 1) := by decide +kernel
theorem dX7_countValue_63 : decode cX7_countValue 63 = .ok (.getfield 12, 3) := by decide +kernel
theorem dX7_countValue_66 : decode cX7_countValue 66 = .ok (.getfield 106, 3) := by decide +kernel
theorem dX7_countValue_69 : decode cX7_countValue 69 = .ok (.getfield 110, 3) := by decide +kernel
theorem dX7_countValue_72 : decode cX7_countValue 72 = .ok (.ireturn, 1) := by decide +kernel
theorem dX7_countValue_73 : decode cX7_countValue 73 = .ok (.aload_n 0, 1) := by decide +kernel
theorem dX7_countValue_74 : decode cX7_countValue 74 = .ok (.getfield 12, 3) := by decide +kernel
theorem dX7_countValue_77 : decode cX7_countValue 77 = .ok (.getfield 143, 3) := by decide +kernel
theorem dX7_countValue_80 : decode cX7_countValue 80 = .ok (.invokevirtual 158, 3) := by decide +kernel
theorem dX7_countValue_83 : decode cX7_countValue 83 = .ok (.ireturn, 1) := by decide +kernel
theorem dX7_countValue_84 : decode cX7_countValue 84 = .ok (.aload_n 0, 1) := by decide +kernel
theorem dX7_countValue_85 : decode cX7_countValue 85 = .ok (.getfield 12, 3) := by decide +kernel
theorem dX7_countValue_88 : decode cX7_countValue 88 = .ok (.invokevirtual 194, 3) := by decide +kernel
theorem dX7_countValue_91 : decode cX7_countValue 91 = .ok (.ireturn, 1) := by decide +kernel
theorem dX7_countValue_92 : decode cX7_countValue 92 = .ok (.aload_n 0, 1) := by decide +kernel
theorem dX7_countValue_93 : decode cX7_countValue 93 = .ok (.getfield 12, 3) := by decide +kernel
theorem dX7_countValue_96 : decode cX7_countValue 96 = .ok (.invokevirtual 289, 3) := by decide +kernel
theorem dX7_countValue_99 : decode cX7_countValue 99 = .ok (.ireturn, 1) := by decide +kernel
theorem dX7_countValue_100 : decode cX7_countValue 100 = .ok (.aload_n 0, 1) := by decide +kernel
theorem dX7_countValue_101 : decode cX7_countValue 101 = .ok (.getfield 12, 3) := by decide +kernel
theorem dX7_countValue_104 : decode cX7_countValue 104 = .ok (.getfield 143, 3) := by decide +kernel
theorem dX7_countValue_107 : decode cX7_countValue 107 = .ok (.invokevirtual 292, 3) := by decide +kernel
theorem dX7_countValue_110 : decode cX7_countValue 110 = .ok (.ireturn, 1) := by decide +kernel
theorem dX7_balanceValue_0 : decode cX7_balanceValue 0 = .ok (.iload_n 1, 1) := by decide +kernel
theorem dX7_balanceValue_1 : decode cX7_balanceValue 1 = .ok (.tableswitch 55 0 2 #[27, 35, 47], 27) := by decide +kernel
theorem dX7_balanceValue_28 : decode cX7_balanceValue 28 = .ok (.aload_n 0, 1) := by decide +kernel
theorem dX7_balanceValue_29 : decode cX7_balanceValue 29 = .ok (.getfield 12, 3) := by decide +kernel
theorem dX7_balanceValue_32 : decode cX7_balanceValue 32 = .ok (.getfield 128, 3) := by decide +kernel
theorem dX7_balanceValue_35 : decode cX7_balanceValue 35 = .ok (.lreturn, 1) := by decide +kernel
theorem dX7_balanceValue_36 : decode cX7_balanceValue 36 = .ok (.aload_n 0, 1) := by decide +kernel
theorem dX7_balanceValue_37 : decode cX7_balanceValue 37 = .ok (.getfield 12, 3) := by decide +kernel
theorem dX7_balanceValue_40 : decode cX7_balanceValue 40 = .ok (.getfield 143, 3) := by decide +kernel
theorem dX7_balanceValue_43 : decode cX7_balanceValue 43 = .ok (.invokevirtual 255, 3) := by decide +kernel
theorem dX7_balanceValue_46 : decode cX7_balanceValue 46 = .ok (.i2l, 1) := by decide +kernel
theorem dX7_balanceValue_47 : decode cX7_balanceValue 47 = .ok (.lreturn, 1) := by decide +kernel
theorem dX7_balanceValue_48 : decode cX7_balanceValue 48 = .ok (.aload_n 0, 1) := by decide +kernel
theorem dX7_balanceValue_49 : decode cX7_balanceValue 49 = .ok (.getfield 12, 3) := by decide +kernel
theorem dX7_balanceValue_52 : decode cX7_balanceValue 52 = .ok (.getfield 295, 3) := by decide +kernel
theorem dX7_balanceValue_55 : decode cX7_balanceValue 55 = .ok (.lreturn, 1) := by decide +kernel
theorem dX7_balanceValue_56 : decode cX7_balanceValue 56 = .ok (.aload_n 0, 1) := by decide +kernel
theorem dX7_balanceValue_57 : decode cX7_balanceValue 57 = .ok (.getfield 12, 3) := by decide +kernel
theorem dX7_balanceValue_60 : decode cX7_balanceValue 60 = .ok (.getfield 155, 3) := by decide +kernel
theorem dX7_balanceValue_63 : decode cX7_balanceValue 63 = .ok (.lreturn, 1) := by decide +kernel
theorem dX7_lakeValue_0 : decode cX7_lakeValue 0 = .ok (.aload_n 0, 1) := by decide +kernel
theorem dX7_lakeValue_1 : decode cX7_lakeValue 1 = .ok (.getfield 12, 3) := by decide +kernel
theorem dX7_lakeValue_4 : decode cX7_lakeValue 4 = .ok (.getfield 143, 3) := by decide +kernel
theorem dX7_lakeValue_7 : decode cX7_lakeValue 7 = .ok (.astore_n 3, 1) := by decide +kernel
theorem dX7_lakeValue_8 : decode cX7_lakeValue 8 = .ok (.aload_n 3, 1) := by decide +kernel
theorem dX7_lakeValue_9 : decode cX7_lakeValue 9 = .ok (.getfield 298, 3) := by decide +kernel
theorem dX7_lakeValue_12 : decode cX7_lakeValue 12 = .ok (.iload_n 1, 1) := by decide +kernel
theorem dX7_lakeValue_13 : decode cX7_lakeValue 13 = .ok (.invokevirtual 62, 3) := by decide +kernel
theorem dX7_lakeValue_16 : decode cX7_lakeValue 16 = .ok (.istore 4, 2) := by decide +kernel
theorem dX7_lakeValue_18 : decode cX7_lakeValue 18 = .ok (.iload_n 2, 1) := by decide +kernel
theorem dX7_lakeValue_19 : decode cX7_lakeValue 19 = .ok (.tableswitch 163 0 8 #[49, 58, 67, 79, 91, 107, 116, 132, 147], 49) := by decide +kernel
theorem dX7_lakeValue_68 : decode cX7_lakeValue 68 = .ok (.aload_n 3, 1) := by decide +kernel
theorem dX7_lakeValue_69 : decode cX7_lakeValue 69 = .ok (.getfield 147, 3) := by decide +kernel
theorem dX7_lakeValue_72 : decode cX7_lakeValue 72 = .ok (.iload_n 1, 1) := by decide +kernel
theorem dX7_lakeValue_73 : decode cX7_lakeValue 73 = .ok (.invokevirtual 62, 3) := by decide +kernel
theorem dX7_lakeValue_76 : decode cX7_lakeValue 76 = .ok (.ireturn, 1) := by decide +kernel
theorem dX7_lakeValue_77 : decode cX7_lakeValue 77 = .ok (.aload_n 3, 1) := by decide +kernel
theorem dX7_lakeValue_78 : decode cX7_lakeValue 78 = .ok (.getfield 301, 3) := by decide +kernel
theorem dX7_lakeValue_81 : decode cX7_lakeValue 81 = .ok (.iload_n 1, 1) := by decide +kernel
theorem dX7_lakeValue_82 : decode cX7_lakeValue 82 = .ok (.invokevirtual 62, 3) := by decide +kernel
theorem dX7_lakeValue_85 : decode cX7_lakeValue 85 = .ok (.ireturn, 1) := by decide +kernel
theorem dX7_lakeValue_86 : decode cX7_lakeValue 86 = .ok (.aload_n 3, 1) := by decide +kernel
theorem dX7_lakeValue_87 : decode cX7_lakeValue 87 = .ok (.getfield 169, 3) := by decide +kernel
theorem dX7_lakeValue_90 : decode cX7_lakeValue 90 = .ok (.iload_n 1, 1) := by decide +kernel
theorem dX7_lakeValue_91 : decode cX7_lakeValue 91 = .ok (.invokevirtual 172, 3) := by decide +kernel
theorem dX7_lakeValue_94 : decode cX7_lakeValue 94 = .ok (.invokestatic 304, 3) := by decide +kernel
theorem dX7_lakeValue_97 : decode cX7_lakeValue 97 = .ok (.ireturn, 1) := by decide +kernel
theorem dX7_lakeValue_98 : decode cX7_lakeValue 98 = .ok (.aload_n 3, 1) := by decide +kernel
theorem dX7_lakeValue_99 : decode cX7_lakeValue 99 = .ok (.getfield 169, 3) := by decide +kernel
theorem dX7_lakeValue_102 : decode cX7_lakeValue 102 = .ok (.iload_n 1, 1) := by decide +kernel
theorem dX7_lakeValue_103 : decode cX7_lakeValue 103 = .ok (.invokevirtual 172, 3) := by decide +kernel
theorem dX7_lakeValue_106 : decode cX7_lakeValue 106 = .ok (.invokestatic 308, 3) := by decide +kernel
theorem dX7_lakeValue_109 : decode cX7_lakeValue 109 = .ok (.ireturn, 1) := by decide +kernel
theorem dX7_lakeValue_110 : decode cX7_lakeValue 110 = .ok (.aload_n 3, 1) := by decide +kernel
theorem dX7_lakeValue_111 : decode cX7_lakeValue 111 = .ok (.aload_n 0, 1) := by decide +kernel
theorem dX7_lakeValue_112 : decode cX7_lakeValue 112 = .ok (.getfield 12, 3) := by decide +kernel
theorem dX7_lakeValue_115 : decode cX7_lakeValue 115 = .ok (.getfield 30, 3) := by decide +kernel
theorem dX7_lakeValue_118 : decode cX7_lakeValue 118 = .ok (.iload_n 1, 1) := by decide +kernel
theorem dX7_lakeValue_119 : decode cX7_lakeValue 119 = .ok (.invokevirtual 313, 3) := by decide +kernel
theorem dX7_lakeValue_122 : decode cX7_lakeValue 122 = .ok (.invokestatic 308, 3) := by decide +kernel
theorem dX7_lakeValue_125 : decode cX7_lakeValue 125 = .ok (.ireturn, 1) := by decide +kernel
theorem dX7_lakeValue_126 : decode cX7_lakeValue 126 = .ok (.aload_n 3, 1) := by decide +kernel
theorem dX7_lakeValue_127 : decode cX7_lakeValue 127 = .ok (.getfield 317, 3) := by decide +kernel
theorem dX7_lakeValue_130 : decode cX7_lakeValue 130 = .ok (.iload_n 1, 1) := by decide +kernel
theorem dX7_lakeValue_131 : decode cX7_lakeValue 131 = .ok (.invokevirtual 62, 3) := by decide +kernel
theorem dX7_lakeValue_134 : decode cX7_lakeValue 134 = .ok (.ireturn, 1) := by decide +kernel
theorem dX7_lakeValue_135 : decode cX7_lakeValue 135 = .ok (.aload_n 0, 1) := by decide +kernel
theorem dX7_lakeValue_136 : decode cX7_lakeValue 136 = .ok (.getfield 12, 3) := by decide +kernel
theorem dX7_lakeValue_139 : decode cX7_lakeValue 139 = .ok (.getfield 30, 3) := by decide +kernel
theorem dX7_lakeValue_142 : decode cX7_lakeValue 142 = .ok (.getfield 118, 3) := by decide +kernel
theorem dX7_lakeValue_145 : decode cX7_lakeValue 145 = .ok (.iload 4, 2) := by decide +kernel
theorem dX7_lakeValue_147 : decode cX7_lakeValue 147 = .ok (.invokevirtual 62, 3) := by decide +kernel
theorem dX7_lakeValue_150 : decode cX7_lakeValue 150 = .ok (.ireturn, 1) := by decide +kernel
theorem dX7_lakeValue_151 : decode cX7_lakeValue 151 = .ok (.iload 4, 2) := by decide +kernel
theorem dX7_lakeValue_153 : decode cX7_lakeValue 153 = .ok (.iconst (-1), 1) := by decide +kernel
theorem dX7_lakeValue_154 : decode cX7_lakeValue 154 = .ok (.if_icmp .ne 7, 3) := by decide +kernel
theorem dX7_lakeValue_157 : decode cX7_lakeValue 157 = .ok (.iconst (-1), 1) := by decide +kernel
theorem dX7_lakeValue_158 : decode cX7_lakeValue 158 = .ok (.goto 7, 3) := by decide +kernel
theorem dX7_lakeValue_161 : decode cX7_lakeValue 161 = .ok (.iload 4, 2) := by decide +kernel
theorem dX7_lakeValue_163 : decode cX7_lakeValue 163 = .ok (.iconst 4, 1) := by decide +kernel
theorem dX7_lakeValue_164 : decode cX7_lakeValue 164 = .ok (.idiv, 1) := by decide +kernel
theorem dX7_lakeValue_165 : decode cX7_lakeValue 165 = .ok (.ireturn, 1) := by decide +kernel
theorem dX7_lakeValue_166 : decode cX7_lakeValue 166 = .ok (.aload_n 0, 1) := by decide +kernel
theorem dX7_lakeValue_167 : decode cX7_lakeValue 167 = .ok (.getfield 12, 3) := by decide +kernel
theorem dX7_lakeValue_170 : decode cX7_lakeValue 170 = .ok (.getfield 30, 3) := by decide +kernel
theorem dX7_lakeValue_173 : decode cX7_lakeValue 173 = .ok (.getfield 320, 3) := by decide +kernel
theorem dX7_lakeValue_176 : decode cX7_lakeValue 176 = .ok (.iload 4, 2) := by decide +kernel
theorem dX7_lakeValue_178 : decode cX7_lakeValue 178 = .ok (.invokevirtual 62, 3) := by decide +kernel
theorem dX7_lakeValue_181 : decode cX7_lakeValue 181 = .ok (.ireturn, 1) := by decide +kernel
theorem dX7_lakeValue_182 : decode cX7_lakeValue 182 = .ok (.aload_n 3, 1) := by decide +kernel
theorem dX7_lakeValue_183 : decode cX7_lakeValue 183 = .ok (.getfield 323, 3) := by decide +kernel
theorem dX7_lakeValue_186 : decode cX7_lakeValue 186 = .ok (.iload_n 1, 1) := by decide +kernel
theorem dX7_lakeValue_187 : decode cX7_lakeValue 187 = .ok (.invokevirtual 62, 3) := by decide +kernel
theorem dX7_lakeValue_190 : decode cX7_lakeValue 190 = .ok (.ireturn, 1) := by decide +kernel
theorem dX7_levelPart_0 : decode cX7_levelPart 0 = .ok (.aload_n 0, 1) := by decide +kernel
theorem dX7_levelPart_1 : decode cX7_levelPart 1 = .ok (.getfield 12, 3) := by decide +kernel
theorem dX7_levelPart_4 : decode cX7_levelPart 4 = .ok (.getfield 143, 3) := by decide +kernel
theorem dX7_levelPart_7 : decode cX7_levelPart 7 = .ok (.astore_n 3, 1) := by decide +kernel
theorem dX7_levelPart_8 : decode cX7_levelPart 8 = .ok (.aload_n 3, 1) := by decide +kernel
theorem dX7_levelPart_9 : decode cX7_levelPart 9 = .ok (.aload_n 0, 1) := by decide +kernel
theorem dX7_levelPart_10 : decode cX7_levelPart 10 = .ok (.getfield 12, 3) := by decide +kernel
theorem dX7_levelPart_13 : decode cX7_levelPart 13 = .ok (.getfield 30, 3) := by decide +kernel
theorem dX7_levelPart_16 : decode cX7_levelPart 16 = .ok (.iload_n 1, 1) := by decide +kernel
theorem dX7_levelPart_17 : decode cX7_levelPart 17 = .ok (.invokevirtual 313, 3) := by decide +kernel
theorem dX7_levelPart_20 : decode cX7_levelPart 20 = .ok (.lstore 4, 2) := by decide +kernel
theorem dX7_levelPart_22 : decode cX7_levelPart 22 = .ok (.lload 4, 2) := by decide +kernel
theorem dX7_levelPart_24 : decode cX7_levelPart 24 = .ok (.lconst 0, 1) := by decide +kernel
theorem dX7_levelPart_25 : decode cX7_levelPart 25 = .ok (.lcmp, 1) := by decide +kernel
theorem dX7_levelPart_26 : decode cX7_levelPart 26 = .ok (.ifCond .ne 37, 3) := by decide +kernel
theorem dX7_levelPart_29 : decode cX7_levelPart 29 = .ok (.iload_n 2, 1) := by decide +kernel
theorem dX7_levelPart_30 : decode cX7_levelPart 30 = .ok (.ifCond .ne 31, 3) := by decide +kernel
theorem dX7_levelPart_33 : decode cX7_levelPart 33 = .ok (.aload_n 0, 1) := by decide +kernel
theorem dX7_levelPart_34 : decode cX7_levelPart 34 = .ok (.getfield 12, 3) := by decide +kernel
theorem dX7_levelPart_37 : decode cX7_levelPart 37 = .ok (.getfield 30, 3) := by decide +kernel
theorem dX7_levelPart_40 : decode cX7_levelPart 40 = .ok (.getfield 58, 3) := by decide +kernel
theorem dX7_levelPart_43 : decode cX7_levelPart 43 = .ok (.aload_n 3, 1) := by decide +kernel
theorem dX7_levelPart_44 : decode cX7_levelPart 44 = .ok (.aload_n 0, 1) := by decide +kernel
theorem dX7_levelPart_45 : decode cX7_levelPart 45 = .ok (.getfield 12, 3) := by decide +kernel
theorem dX7_levelPart_48 : decode cX7_levelPart 48 = .ok (.getfield 30, 3) := by decide +kernel
theorem dX7_levelPart_51 : decode cX7_levelPart 51 = .ok (.iload_n 1, 1) := by decide +kernel
theorem dX7_levelPart_52 : decode cX7_levelPart 52 = .ok (.invokevirtual 326, 3) := by decide +kernel
theorem dX7_levelPart_55 : decode cX7_levelPart 55 = .ok (.invokevirtual 62, 3) := by decide +kernel
theorem dX7_levelPart_58 : decode cX7_levelPart 58 = .ok (.goto 4, 3) := by decide +kernel
theorem dX7_levelPart_61 : decode cX7_levelPart 61 = .ok (.iconst 1, 1) := by decide +kernel
theorem dX7_levelPart_62 : decode cX7_levelPart 62 = .ok (.ireturn, 1) := by decide +kernel
theorem dX7_levelPart_63 : decode cX7_levelPart 63 = .ok (.aload_n 3, 1) := by decide +kernel
theorem dX7_levelPart_64 : decode cX7_levelPart 64 = .ok (.getfield 147, 3) := by decide +kernel
theorem dX7_levelPart_67 : decode cX7_levelPart 67 = .ok (.iload_n 1, 1) := by decide +kernel
theorem dX7_levelPart_68 : decode cX7_levelPart 68 = .ok (.invokevirtual 62, 3) := by decide +kernel
theorem dX7_levelPart_71 : decode cX7_levelPart 71 = .ok (.aload_n 0, 1) := by decide +kernel
theorem dX7_levelPart_72 : decode cX7_levelPart 72 = .ok (.getfield 12, 3) := by decide +kernel
theorem dX7_levelPart_75 : decode cX7_levelPart 75 = .ok (.getfield 30, 3) := by decide +kernel
theorem dX7_levelPart_78 : decode cX7_levelPart 78 = .ok (.lload 4, 2) := by decide +kernel
theorem dX7_levelPart_80 : decode cX7_levelPart 80 = .ok (.invokevirtual 330, 3) := by decide +kernel
theorem dX7_levelPart_83 : decode cX7_levelPart 83 = .ok (.iadd, 1) := by decide +kernel
theorem dX7_levelPart_84 : decode cX7_levelPart 84 = .ok (.istore 6, 2) := by decide +kernel
theorem dX7_levelPart_86 : decode cX7_levelPart 86 = .ok (.lload 4, 2) := by decide +kernel
theorem dX7_levelPart_88 : decode cX7_levelPart 88 = .ok (.invokestatic 308, 3) := by decide +kernel
theorem dX7_levelPart_91 : decode cX7_levelPart 91 = .ok (.istore 7, 2) := by decide +kernel
theorem dX7_levelPart_93 : decode cX7_levelPart 93 = .ok (.iload_n 2, 1) := by decide +kernel
theorem dX7_levelPart_94 : decode cX7_levelPart 94 = .ok (.ifCond .ne 8, 3) := by decide +kernel
theorem dX7_levelPart_97 : decode cX7_levelPart 97 = .ok (.iload 6, 2) := by decide +kernel
theorem dX7_levelPart_99 : decode cX7_levelPart 99 = .ok (.goto 5, 3) := by decide +kernel
theorem dX7_levelPart_102 : decode cX7_levelPart 102 = .ok (.iload 7, 2) := by decide +kernel
theorem dX7_levelPart_104 : decode cX7_levelPart 104 = .ok (.iload 6, 2) := by decide +kernel
theorem dX7_levelPart_106 : decode cX7_levelPart 106 = .ok (.iload 7, 2) := by decide +kernel
theorem dX7_levelPart_108 : decode cX7_levelPart 108 = .ok (.invokestatic 333, 3) := by decide +kernel
theorem dX7_levelPart_111 : decode cX7_levelPart 111 = .ok (.invokestatic 336, 3) := by decide +kernel
theorem dX7_levelPart_114 : decode cX7_levelPart 114 = .ok (.ireturn, 1) := by decide +kernel
theorem dX7_depthValue_0 : decode cX7_depthValue 0 = .ok (.aload_n 0, 1) := by decide +kernel
theorem dX7_depthValue_1 : decode cX7_depthValue 1 = .ok (.getfield 12, 3) := by decide +kernel
theorem dX7_depthValue_4 : decode cX7_depthValue 4 = .ok (.getfield 143, 3) := by decide +kernel
theorem dX7_depthValue_7 : decode cX7_depthValue 7 = .ok (.getfield 339, 3) := by decide +kernel
theorem dX7_depthValue_10 : decode cX7_depthValue 10 = .ok (.iload_n 1, 1) := by decide +kernel
theorem dX7_depthValue_11 : decode cX7_depthValue 11 = .ok (.invokevirtual 62, 3) := by decide +kernel
theorem dX7_depthValue_14 : decode cX7_depthValue 14 = .ok (.istore_n 2, 1) := by decide +kernel
theorem dX7_depthValue_15 : decode cX7_depthValue 15 = .ok (.aload_n 0, 1) := by decide +kernel
theorem dX7_depthValue_16 : decode cX7_depthValue 16 = .ok (.getfield 12, 3) := by decide +kernel
theorem dX7_depthValue_19 : decode cX7_depthValue 19 = .ok (.getfield 143, 3) := by decide +kernel
theorem dX7_depthValue_22 : decode cX7_depthValue 22 = .ok (.aload_n 0, 1) := by decide +kernel
theorem dX7_depthValue_23 : decode cX7_depthValue 23 = .ok (.getfield 12, 3) := by decide +kernel
theorem dX7_depthValue_26 : decode cX7_depthValue 26 = .ok (.getfield 30, 3) := by decide +kernel
theorem dX7_depthValue_29 : decode cX7_depthValue 29 = .ok (.iload_n 2, 1) := by decide +kernel
theorem dX7_depthValue_30 : decode cX7_depthValue 30 = .ok (.invokevirtual 313, 3) := by decide +kernel
theorem dX7_depthValue_33 : decode cX7_depthValue 33 = .ok (.lstore_n 3, 1) := by decide +kernel
theorem dX7_depthValue_34 : decode cX7_depthValue 34 = .ok (.lload_n 3, 1) := by decide +kernel
theorem dX7_depthValue_35 : decode cX7_depthValue 35 = .ok (.iload_n 1, 1) := by decide +kernel
theorem dX7_depthValue_36 : decode cX7_depthValue 36 = .ok (.invokestatic 81, 3) := by decide +kernel
theorem dX7_depthValue_39 : decode cX7_depthValue 39 = .ok (.ifCond .ne 5, 3) := by decide +kernel
theorem dX7_depthValue_42 : decode cX7_depthValue 42 = .ok (.dconst 0, 1) := by decide +kernel
theorem dX7_depthValue_43 : decode cX7_depthValue 43 = .ok (.dreturn, 1) := by decide +kernel
theorem dX7_depthValue_44 : decode cX7_depthValue 44 = .ok (.lload_n 3, 1) := by decide +kernel
theorem dX7_depthValue_45 : decode cX7_depthValue 45 = .ok (.invokestatic 308, 3) := by decide +kernel
theorem dX7_depthValue_48 : decode cX7_depthValue 48 = .ok (.istore 5, 2) := by decide +kernel
theorem dX7_depthValue_50 : decode cX7_depthValue 50 = .ok (.aload_n 0, 1) := by decide +kernel
theorem dX7_depthValue_51 : decode cX7_depthValue 51 = .ok (.getfield 12, 3) := by decide +kernel
theorem dX7_depthValue_54 : decode cX7_depthValue 54 = .ok (.getfield 143, 3) := by decide +kernel
theorem dX7_depthValue_57 : decode cX7_depthValue 57 = .ok (.getfield 147, 3) := by decide +kernel
theorem dX7_depthValue_60 : decode cX7_depthValue 60 = .ok (.iload_n 2, 1) := by decide +kernel
theorem dX7_depthValue_61 : decode cX7_depthValue 61 = .ok (.invokevirtual 62, 3) := by decide +kernel
theorem dX7_depthValue_64 : decode cX7_depthValue 64 = .ok (.aload_n 0, 1) := by decide +kernel
theorem dX7_depthValue_65 : decode cX7_depthValue 65 = .ok (.getfield 12, 3) := by decide +kernel
theorem dX7_depthValue_68 : decode cX7_depthValue 68 = .ok (.getfield 30, 3) := by decide +kernel
theorem dX7_depthValue_71 : decode cX7_depthValue 71 = .ok (.lload_n 3, 1) := by decide +kernel
theorem dX7_depthValue_72 : decode cX7_depthValue 72 = .ok (.invokevirtual 330, 3) := by decide +kernel
theorem dX7_depthValue_75 : decode cX7_depthValue 75 = .ok (.iadd, 1) := by decide +kernel
theorem dX7_depthValue_76 : decode cX7_depthValue 76 = .ok (.iload 5, 2) := by decide +kernel
theorem dX7_depthValue_78 : decode cX7_depthValue 78 = .ok (.aload_n 0, 1) := by decide +kernel
theorem dX7_depthValue_79 : decode cX7_depthValue 79 = .ok (.getfield 12, 3) := by decide +kernel
theorem dX7_depthValue_82 : decode cX7_depthValue 82 = .ok (.getfield 30, 3) := by decide +kernel
theorem dX7_depthValue_85 : decode cX7_depthValue 85 = .ok (.getfield 58, 3) := by decide +kernel
theorem dX7_depthValue_88 : decode cX7_depthValue 88 = .ok (.iload_n 1, 1) := by decide +kernel
theorem dX7_depthValue_89 : decode cX7_depthValue 89 = .ok (.invokevirtual 62, 3) := by decide +kernel
theorem dX7_depthValue_92 : decode cX7_depthValue 92 = .ok (.imul, 1) := by decide +kernel
theorem dX7_depthValue_93 : decode cX7_depthValue 93 = .ok (.isub, 1) := by decide +kernel
theorem dX7_depthValue_94 : decode cX7_depthValue 94 = .ok (.istore 6, 2) := by decide +kernel
theorem dX7_depthValue_96 : decode cX7_depthValue 96 = .ok (.iload 6, 2) := by decide +kernel
theorem dX7_depthValue_98 : decode cX7_depthValue 98 = .ok (.iload 5, 2) := by decide +kernel
theorem dX7_depthValue_100 : decode cX7_depthValue 100 = .ok (.invokestatic 333, 3) := by decide +kernel
theorem dX7_depthValue_103 : decode cX7_depthValue 103 = .ok (.istore 7, 2) := by decide +kernel
theorem dX7_depthValue_105 : decode cX7_depthValue 105 = .ok (.iload 5, 2) := by decide +kernel
theorem dX7_depthValue_107 : decode cX7_depthValue 107 = .ok (.iload 7, 2) := by decide +kernel
theorem dX7_depthValue_109 : decode cX7_depthValue 109 = .ok (.invokestatic 336, 3) := by decide +kernel
theorem dX7_depthValue_112 : decode cX7_depthValue 112 = .ok (.istore 8, 2) := by decide +kernel
theorem dX7_depthValue_114 : decode cX7_depthValue 114 = .ok (.iload 8, 2) := by decide +kernel
theorem dX7_depthValue_116 : decode cX7_depthValue 116 = .ok (.ifCond .le 18, 3) := by decide +kernel
theorem dX7_depthValue_119 : decode cX7_depthValue 119 = .ok (.iload 6, 2) := by decide +kernel
theorem dX7_depthValue_121 : decode cX7_depthValue 121 = .ok (.iload 7, 2) := by decide +kernel
theorem dX7_depthValue_123 : decode cX7_depthValue 123 = .ok (.invokestatic 336, 3) := by decide +kernel
theorem dX7_depthValue_126 : decode cX7_depthValue 126 = .ok (.i2d, 1) := by decide +kernel
theorem dX7_depthValue_127 : decode cX7_depthValue 127 = .ok (.iload 8, 2) := by decide +kernel
theorem dX7_depthValue_129 : decode cX7_depthValue 129 = .ok (.i2d, 1) := by decide +kernel
theorem dX7_depthValue_130 : decode cX7_depthValue 130 = .ok (.ddiv, 1) := by decide +kernel
theorem dX7_depthValue_131 : decode cX7_depthValue 131 = .ok (.goto 4, 3) := by decide +kernel
theorem dX7_depthValue_134 : decode cX7_depthValue 134 = .ok (.dconst 0, 1) := by decide +kernel
theorem dX7_depthValue_135 : decode cX7_depthValue 135 = .ok (.dreturn, 1) := by decide +kernel
theorem dX7_wouldBeWet_0 : decode cX7_wouldBeWet 0 = .ok (.aload_n 0, 1) := by decide +kernel
theorem dX7_wouldBeWet_1 : decode cX7_wouldBeWet 1 = .ok (.getfield 16, 3) := by decide +kernel
theorem dX7_wouldBeWet_4 : decode cX7_wouldBeWet 4 = .ok (.aload_n 0, 1) := by decide +kernel
theorem dX7_wouldBeWet_5 : decode cX7_wouldBeWet 5 = .ok (.getfield 12, 3) := by decide +kernel
theorem dX7_wouldBeWet_8 : decode cX7_wouldBeWet 8 = .ok (.invokevirtual 190, 3) := by decide +kernel
theorem dX7_wouldBeWet_11 : decode cX7_wouldBeWet 11 = .ok (.aload_n 0, 1) := by decide +kernel
theorem dX7_wouldBeWet_12 : decode cX7_wouldBeWet 12 = .ok (.getfield 16, 3) := by decide +kernel
theorem dX7_wouldBeWet_15 : decode cX7_wouldBeWet 15 = .ok (.iload_n 1, 1) := by decide +kernel
theorem dX7_wouldBeWet_16 : decode cX7_wouldBeWet 16 = .ok (.iload_n 2, 1) := by decide +kernel
theorem dX7_wouldBeWet_17 : decode cX7_wouldBeWet 17 = .ok (.invokevirtual 131, 3) := by decide +kernel
theorem dX7_wouldBeWet_20 : decode cX7_wouldBeWet 20 = .ok (.pop, 1) := by decide +kernel
theorem dX7_wouldBeWet_21 : decode cX7_wouldBeWet 21 = .ok (.aload_n 0, 1) := by decide +kernel
theorem dX7_wouldBeWet_22 : decode cX7_wouldBeWet 22 = .ok (.getfield 16, 3) := by decide +kernel
theorem dX7_wouldBeWet_25 : decode cX7_wouldBeWet 25 = .ok (.iload_n 3, 1) := by decide +kernel
theorem dX7_wouldBeWet_26 : decode cX7_wouldBeWet 26 = .ok (.invokevirtual 277, 3) := by decide +kernel
theorem dX7_wouldBeWet_29 : decode cX7_wouldBeWet 29 = .ok (.ireturn, 1) := by decide +kernel
theorem dX7_mixLake_0 : decode cX7_mixLake 0 = .ok (.lload_n 1, 1) := by decide +kernel
theorem dX7_mixLake_1 : decode cX7_mixLake 1 = .ok (.lstore 4, 2) := by decide +kernel
theorem dX7_mixLake_3 : decode cX7_mixLake 3 = .ok (.iconst 0, 1) := by decide +kernel
theorem dX7_mixLake_4 : decode cX7_mixLake 4 = .ok (.istore 6, 2) := by decide +kernel
theorem dX7_mixLake_6 : decode cX7_mixLake 6 = .ok (.iload 6, 2) := by decide +kernel
theorem dX7_mixLake_8 : decode cX7_mixLake 8 = .ok (.bipush 9, 2) := by decide +kernel
theorem dX7_mixLake_10 : decode cX7_mixLake 10 = .ok (.if_icmp .gt 24, 3) := by decide +kernel
theorem dX7_mixLake_13 : decode cX7_mixLake 13 = .ok (.lload 4, 2) := by decide +kernel
theorem dX7_mixLake_15 : decode cX7_mixLake 15 = .ok (.aload_n 0, 1) := by decide +kernel
theorem dX7_mixLake_16 : decode cX7_mixLake 16 = .ok (.iload_n 3, 1) := by decide +kernel
theorem dX7_mixLake_17 : decode cX7_mixLake 17 = .ok (.iload 6, 2) := by decide +kernel
theorem dX7_mixLake_19 : decode cX7_mixLake 19 = .ok (.invokevirtual 166, 3) := by decide +kernel
theorem dX7_mixLake_22 : decode cX7_mixLake 22 = .ok (.i2l, 1) := by decide +kernel
theorem dX7_mixLake_23 : decode cX7_mixLake 23 = .ok (.invokestatic 231, 3) := by decide +kernel
theorem dX7_mixLake_26 : decode cX7_mixLake 26 = .ok (.lstore 4, 2) := by decide +kernel
theorem dX7_mixLake_28 : decode cX7_mixLake 28 = .ok (.iinc 6 1, 3) := by decide +kernel
theorem dX7_mixLake_31 : decode cX7_mixLake 31 = .ok (.goto (-25), 3) := by decide +kernel
theorem dX7_mixLake_34 : decode cX7_mixLake 34 = .ok (.lload 4, 2) := by decide +kernel
theorem dX7_mixLake_36 : decode cX7_mixLake 36 = .ok (.aload_n 0, 1) := by decide +kernel
theorem dX7_mixLake_37 : decode cX7_mixLake 37 = .ok (.getfield 12, 3) := by decide +kernel
theorem dX7_mixLake_40 : decode cX7_mixLake 40 = .ok (.getfield 143, 3) := by decide +kernel
theorem dX7_mixLake_43 : decode cX7_mixLake 43 = .ok (.getfield 169, 3) := by decide +kernel
theorem dX7_mixLake_46 : decode cX7_mixLake 46 = .ok (.iload_n 3, 1) := by decide +kernel
theorem dX7_mixLake_47 : decode cX7_mixLake 47 = .ok (.invokevirtual 172, 3) := by decide +kernel
theorem dX7_mixLake_50 : decode cX7_mixLake 50 = .ok (.invokestatic 231, 3) := by decide +kernel
theorem dX7_mixLake_53 : decode cX7_mixLake 53 = .ok (.lstore 4, 2) := by decide +kernel
theorem dX7_mixLake_55 : decode cX7_mixLake 55 = .ok (.lload 4, 2) := by decide +kernel
theorem dX7_mixLake_57 : decode cX7_mixLake 57 = .ok (.aload_n 0, 1) := by decide +kernel
theorem dX7_mixLake_58 : decode cX7_mixLake 58 = .ok (.iload_n 3, 1) := by decide +kernel
theorem dX7_mixLake_59 : decode cX7_mixLake 59 = .ok (.iconst 0, 1) := by decide +kernel
theorem dX7_mixLake_60 : decode cX7_mixLake 60 = .ok (.invokevirtual 176, 3) := by decide +kernel
theorem dX7_mixLake_63 : decode cX7_mixLake 63 = .ok (.i2l, 1) := by decide +kernel
theorem dX7_mixLake_64 : decode cX7_mixLake 64 = .ok (.invokestatic 231, 3) := by decide +kernel
theorem dX7_mixLake_67 : decode cX7_mixLake 67 = .ok (.lstore 4, 2) := by decide +kernel
theorem dX7_mixLake_69 : decode cX7_mixLake 69 = .ok (.lload 4, 2) := by decide +kernel
theorem dX7_mixLake_71 : decode cX7_mixLake 71 = .ok (.aload_n 0, 1) := by decide +kernel
theorem dX7_mixLake_72 : decode cX7_mixLake 72 = .ok (.iload_n 3, 1) := by decide +kernel
theorem dX7_mixLake_73 : decode cX7_mixLake 73 = .ok (.iconst 1, 1) := by decide +kernel
theorem dX7_mixLake_74 : decode cX7_mixLake 74 = .ok (.invokevirtual 176, 3) := by decide +kernel
theorem dX7_mixLake_77 : decode cX7_mixLake 77 = .ok (.i2l, 1) := by decide +kernel
theorem dX7_mixLake_78 : decode cX7_mixLake 78 = .ok (.invokestatic 231, 3) := by decide +kernel
theorem dX7_mixLake_81 : decode cX7_mixLake 81 = .ok (.lreturn, 1) := by decide +kernel
theorem dX7_mix_0 : decode cX7_mix 0 = .ok (.ldc2_w 342, 3) := by decide +kernel
theorem dX7_mix_3 : decode cX7_mix 3 = .ok (.lload_n 0, 1) := by decide +kernel
theorem dX7_mix_4 : decode cX7_mix 4 = .ok (.lmul, 1) := by decide +kernel
theorem dX7_mix_5 : decode cX7_mix 5 = .ok (.lload_n 2, 1) := by decide +kernel
theorem dX7_mix_6 : decode cX7_mix 6 = .ok (.ladd, 1) := by decide +kernel
theorem dX7_mix_7 : decode cX7_mix 7 = .ok (.lreturn, 1) := by decide +kernel
theorem dX7_commonDivisor_0 : decode cX7_commonDivisor 0 = .ok (.bipush 36, 2) := by decide +kernel
theorem dX7_commonDivisor_2 : decode cX7_commonDivisor 2 = .ok (.istore_n 2, 1) := by decide +kernel
theorem dX7_commonDivisor_3 : decode cX7_commonDivisor 3 = .ok (.iload_n 2, 1) := by decide +kernel
theorem dX7_commonDivisor_4 : decode cX7_commonDivisor 4 = .ok (.iconst 1, 1) := by decide +kernel
theorem dX7_commonDivisor_5 : decode cX7_commonDivisor 5 = .ok (.if_icmp .le 23, 3) := by decide +kernel
theorem dX7_commonDivisor_8 : decode cX7_commonDivisor 8 = .ok (.iload_n 0, 1) := by decide +kernel
theorem dX7_commonDivisor_9 : decode cX7_commonDivisor 9 = .ok (.iload_n 2, 1) := by decide +kernel
theorem dX7_commonDivisor_10 : decode cX7_commonDivisor 10 = .ok (.irem, 1) := by decide +kernel
theorem dX7_commonDivisor_11 : decode cX7_commonDivisor 11 = .ok (.ifCond .ne 11, 3) := by decide +kernel
theorem dX7_commonDivisor_14 : decode cX7_commonDivisor 14 = .ok (.iload_n 1, 1) := by decide +kernel
theorem dX7_commonDivisor_15 : decode cX7_commonDivisor 15 = .ok (.iload_n 2, 1) := by decide +kernel
theorem dX7_commonDivisor_16 : decode cX7_commonDivisor 16 = .ok (.irem, 1) := by decide +kernel
theorem dX7_commonDivisor_17 : decode cX7_commonDivisor 17 = .ok (.ifCond .ne 5, 3) := by decide +kernel
theorem dX7_commonDivisor_20 : decode cX7_commonDivisor 20 = .ok (.iload_n 2, 1) := by decide +kernel
theorem dX7_commonDivisor_21 : decode cX7_commonDivisor 21 = .ok (.ireturn, 1) := by decide +kernel
theorem dX7_commonDivisor_22 : decode cX7_commonDivisor 22 = .ok (.iinc 2 (-1), 3) := by decide +kernel
theorem dX7_commonDivisor_25 : decode cX7_commonDivisor 25 = .ok (.goto (-22), 3) := by decide +kernel
theorem dX7_commonDivisor_28 : decode cX7_commonDivisor 28 = .ok (.iconst 1, 1) := by decide +kernel
theorem dX7_commonDivisor_29 : decode cX7_commonDivisor 29 = .ok (.ireturn, 1) := by decide +kernel
theorem dX7_reduced_0 : decode cX7_reduced 0 = .ok (.iload_n 1, 1) := by decide +kernel
theorem dX7_reduced_1 : decode cX7_reduced 1 = .ok (.iconst 1, 1) := by decide +kernel
theorem dX7_reduced_2 : decode cX7_reduced 2 = .ok (.if_icmp .le 9, 3) := by decide +kernel
theorem dX7_reduced_5 : decode cX7_reduced 5 = .ok (.iload_n 0, 1) := by decide +kernel
theorem dX7_reduced_6 : decode cX7_reduced 6 = .ok (.iload_n 1, 1) := by decide +kernel
theorem dX7_reduced_7 : decode cX7_reduced 7 = .ok (.idiv, 1) := by decide +kernel
theorem dX7_reduced_8 : decode cX7_reduced 8 = .ok (.goto 4, 3) := by decide +kernel
theorem dX7_reduced_11 : decode cX7_reduced 11 = .ok (.iload_n 0, 1) := by decide +kernel
theorem dX7_reduced_12 : decode cX7_reduced 12 = .ok (.ireturn, 1) := by decide +kernel
theorem dX7_bit_0 : decode cX7_bit 0 = .ok (.lconst 1, 1) := by decide +kernel
theorem dX7_bit_1 : decode cX7_bit 1 = .ok (.iload_n 0, 1) := by decide +kernel
theorem dX7_bit_2 : decode cX7_bit 2 = .ok (.lshl, 1) := by decide +kernel
theorem dX7_bit_3 : decode cX7_bit 3 = .ok (.lreturn, 1) := by decide +kernel
theorem dX7_has_0 : decode cX7_has 0 = .ok (.lload_n 0, 1) := by decide +kernel
theorem dX7_has_1 : decode cX7_has 1 = .ok (.iload_n 2, 1) := by decide +kernel
theorem dX7_has_2 : decode cX7_has 2 = .ok (.lshr, 1) := by decide +kernel
theorem dX7_has_3 : decode cX7_has 3 = .ok (.lconst 1, 1) := by decide +kernel
theorem dX7_has_4 : decode cX7_has 4 = .ok (.land, 1) := by decide +kernel
theorem dX7_has_5 : decode cX7_has 5 = .ok (.lconst 0, 1) := by decide +kernel
theorem dX7_has_6 : decode cX7_has 6 = .ok (.lcmp, 1) := by decide +kernel
theorem dX7_has_7 : decode cX7_has 7 = .ok (.ifCond .eq 7, 3) := by decide +kernel
theorem dX7_has_10 : decode cX7_has 10 = .ok (.iconst 1, 1) := by decide +kernel
theorem dX7_has_11 : decode cX7_has 11 = .ok (.goto 4, 3) := by decide +kernel
theorem dX7_has_14 : decode cX7_has 14 = .ok (.iconst 0, 1) := by decide +kernel
theorem dX7_has_15 : decode cX7_has 15 = .ok (.ireturn, 1) := by decide +kernel
theorem dX7_lowestIn_0 : decode cX7_lowestIn 0 = .ok (.lload_n 0, 1) := by decide +kernel
theorem dX7_lowestIn_1 : decode cX7_lowestIn 1 = .ok (.lconst 0, 1) := by decide +kernel
theorem dX7_lowestIn_2 : decode cX7_lowestIn 2 = .ok (.lcmp, 1) := by decide +kernel
theorem dX7_lowestIn_3 : decode cX7_lowestIn 3 = .ok (.ifCond .ne 7, 3) := by decide +kernel
theorem dX7_lowestIn_6 : decode cX7_lowestIn 6 = .ok (.iconst (-1), 1) := by decide +kernel
theorem dX7_lowestIn_7 : decode cX7_lowestIn 7 = .ok (.goto 12, 3) := by decide +kernel
theorem dX7_lowestIn_10 : decode cX7_lowestIn 10 = .ok (.lload_n 0, 1) := by decide +kernel
theorem dX7_lowestIn_11 : decode cX7_lowestIn 11 = .ok (.lload_n 0, 1) := by decide +kernel
theorem dX7_lowestIn_12 : decode cX7_lowestIn 12 = .ok (.lneg, 1) := by decide +kernel
theorem dX7_lowestIn_13 : decode cX7_lowestIn 13 = .ok (.land, 1) := by decide +kernel
theorem dX7_lowestIn_14 : decode cX7_lowestIn 14 = .ok (.lconst 1, 1) := by decide +kernel
theorem dX7_lowestIn_15 : decode cX7_lowestIn 15 = .ok (.lsub, 1) := by decide +kernel
theorem dX7_lowestIn_16 : decode cX7_lowestIn 16 = .ok (.invokestatic 308, 3) := by decide +kernel
theorem dX7_lowestIn_19 : decode cX7_lowestIn 19 = .ok (.ireturn, 1) := by decide +kernel
