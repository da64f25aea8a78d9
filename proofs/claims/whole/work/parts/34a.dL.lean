theorem dL_begin_0 : decode cL_begin 0 = .ok (.aload_n 3, 1) := by decide +kernel
theorem dL_begin_1 : decode cL_begin 1 = .ok (.iconst 0, 1) := by decide +kernel
theorem dL_begin_2 : decode cL_begin 2 = .ok (.aload_n 0, 1) := by decide +kernel
theorem dL_begin_3 : decode cL_begin 3 = .ok (.iload_n 1, 1) := by decide +kernel
theorem dL_begin_4 : decode cL_begin 4 = .ok (.iload_n 2, 1) := by decide +kernel
theorem dL_begin_5 : decode cL_begin 5 = .ok (.invokevirtual 7, 3) := by decide +kernel
theorem dL_begin_8 : decode cL_begin 8 = .ok (.i2l, 1) := by decide +kernel
theorem dL_begin_9 : decode cL_begin 9 = .ok (.lastore, 1) := by decide +kernel
theorem dL_begin_10 : decode cL_begin 10 = .ok (.goto 7, 3) := by decide +kernel
theorem dL_begin_13 : decode cL_begin 13 = .ok (.astore 4, 2) := by decide +kernel
theorem dL_begin_15 : decode cL_begin 15 = .ok (.iconst 1, 1) := by decide +kernel
theorem dL_begin_16 : decode cL_begin 16 = .ok (.ireturn, 1) := by decide +kernel
theorem dL_begin_17 : decode cL_begin 17 = .ok (.iconst 0, 1) := by decide +kernel
theorem dL_begin_18 : decode cL_begin 18 = .ok (.ireturn, 1) := by decide +kernel
theorem dL_setHeight_0 : decode cL_setHeight 0 = .ok (.aload_n 3, 1) := by decide +kernel
theorem dL_setHeight_1 : decode cL_setHeight 1 = .ok (.iconst 0, 1) := by decide +kernel
theorem dL_setHeight_2 : decode cL_setHeight 2 = .ok (.aload_n 0, 1) := by decide +kernel
theorem dL_setHeight_3 : decode cL_setHeight 3 = .ok (.iload_n 1, 1) := by decide +kernel
theorem dL_setHeight_4 : decode cL_setHeight 4 = .ok (.iload_n 2, 1) := by decide +kernel
theorem dL_setHeight_5 : decode cL_setHeight 5 = .ok (.invokevirtual 15, 3) := by decide +kernel
theorem dL_setHeight_8 : decode cL_setHeight 8 = .ok (.i2l, 1) := by decide +kernel
theorem dL_setHeight_9 : decode cL_setHeight 9 = .ok (.lastore, 1) := by decide +kernel
theorem dL_setHeight_10 : decode cL_setHeight 10 = .ok (.goto 11, 3) := by decide +kernel
theorem dL_setHeight_13 : decode cL_setHeight 13 = .ok (.astore 4, 2) := by decide +kernel
theorem dL_setHeight_15 : decode cL_setHeight 15 = .ok (.iconst 1, 1) := by decide +kernel
theorem dL_setHeight_16 : decode cL_setHeight 16 = .ok (.ireturn, 1) := by decide +kernel
theorem dL_setHeight_17 : decode cL_setHeight 17 = .ok (.astore 4, 2) := by decide +kernel
theorem dL_setHeight_19 : decode cL_setHeight 19 = .ok (.iconst 2, 1) := by decide +kernel
theorem dL_setHeight_20 : decode cL_setHeight 20 = .ok (.ireturn, 1) := by decide +kernel
theorem dL_setHeight_21 : decode cL_setHeight 21 = .ok (.iconst 0, 1) := by decide +kernel
theorem dL_setHeight_22 : decode cL_setHeight 22 = .ok (.ireturn, 1) := by decide +kernel
theorem dL_setDrain_0 : decode cL_setDrain 0 = .ok (.aload_n 3, 1) := by decide +kernel
theorem dL_setDrain_1 : decode cL_setDrain 1 = .ok (.iconst 0, 1) := by decide +kernel
theorem dL_setDrain_2 : decode cL_setDrain 2 = .ok (.aload_n 0, 1) := by decide +kernel
theorem dL_setDrain_3 : decode cL_setDrain 3 = .ok (.iload_n 1, 1) := by decide +kernel
theorem dL_setDrain_4 : decode cL_setDrain 4 = .ok (.iload_n 2, 1) := by decide +kernel
theorem dL_setDrain_5 : decode cL_setDrain 5 = .ok (.invokevirtual 20, 3) := by decide +kernel
theorem dL_setDrain_8 : decode cL_setDrain 8 = .ok (.ifCond .eq 7, 3) := by decide +kernel
theorem dL_setDrain_11 : decode cL_setDrain 11 = .ok (.lconst 1, 1) := by decide +kernel
theorem dL_setDrain_12 : decode cL_setDrain 12 = .ok (.goto 4, 3) := by decide +kernel
theorem dL_setDrain_15 : decode cL_setDrain 15 = .ok (.lconst 0, 1) := by decide +kernel
theorem dL_setDrain_16 : decode cL_setDrain 16 = .ok (.lastore, 1) := by decide +kernel
theorem dL_setDrain_17 : decode cL_setDrain 17 = .ok (.goto 7, 3) := by decide +kernel
theorem dL_setDrain_20 : decode cL_setDrain 20 = .ok (.astore 4, 2) := by decide +kernel
theorem dL_setDrain_22 : decode cL_setDrain 22 = .ok (.iconst 1, 1) := by decide +kernel
theorem dL_setDrain_23 : decode cL_setDrain 23 = .ok (.ireturn, 1) := by decide +kernel
theorem dL_setDrain_24 : decode cL_setDrain 24 = .ok (.iconst 0, 1) := by decide +kernel
theorem dL_setDrain_25 : decode cL_setDrain 25 = .ok (.ireturn, 1) := by decide +kernel
theorem dL_setGate_0 : decode cL_setGate 0 = .ok (.aload 4, 2) := by decide +kernel
theorem dL_setGate_2 : decode cL_setGate 2 = .ok (.iconst 0, 1) := by decide +kernel
theorem dL_setGate_3 : decode cL_setGate 3 = .ok (.aload_n 0, 1) := by decide +kernel
theorem dL_setGate_4 : decode cL_setGate 4 = .ok (.iload_n 1, 1) := by decide +kernel
theorem dL_setGate_5 : decode cL_setGate 5 = .ok (.iload_n 2, 1) := by decide +kernel
theorem dL_setGate_6 : decode cL_setGate 6 = .ok (.iload_n 3, 1) := by decide +kernel
theorem dL_setGate_7 : decode cL_setGate 7 = .ok (.invokevirtual 24, 3) := by decide +kernel
theorem dL_setGate_10 : decode cL_setGate 10 = .ok (.i2l, 1) := by decide +kernel
theorem dL_setGate_11 : decode cL_setGate 11 = .ok (.lastore, 1) := by decide +kernel
theorem dL_setGate_12 : decode cL_setGate 12 = .ok (.goto 11, 3) := by decide +kernel
theorem dL_setGate_15 : decode cL_setGate 15 = .ok (.astore 5, 2) := by decide +kernel
theorem dL_setGate_17 : decode cL_setGate 17 = .ok (.iconst 1, 1) := by decide +kernel
theorem dL_setGate_18 : decode cL_setGate 18 = .ok (.ireturn, 1) := by decide +kernel
theorem dL_setGate_19 : decode cL_setGate 19 = .ok (.astore 5, 2) := by decide +kernel
theorem dL_setGate_21 : decode cL_setGate 21 = .ok (.iconst 2, 1) := by decide +kernel
theorem dL_setGate_22 : decode cL_setGate 22 = .ok (.ireturn, 1) := by decide +kernel
theorem dL_setGate_23 : decode cL_setGate 23 = .ok (.iconst 0, 1) := by decide +kernel
theorem dL_setGate_24 : decode cL_setGate 24 = .ok (.ireturn, 1) := by decide +kernel
theorem dL_random_0 : decode cL_random 0 = .ok (.aload_n 3, 1) := by decide +kernel
theorem dL_random_1 : decode cL_random 1 = .ok (.iconst 0, 1) := by decide +kernel
theorem dL_random_2 : decode cL_random 2 = .ok (.aload_n 0, 1) := by decide +kernel
theorem dL_random_3 : decode cL_random 3 = .ok (.iload_n 1, 1) := by decide +kernel
theorem dL_random_4 : decode cL_random 4 = .ok (.iload_n 2, 1) := by decide +kernel
theorem dL_random_5 : decode cL_random 5 = .ok (.invokevirtual 28, 3) := by decide +kernel
theorem dL_random_8 : decode cL_random 8 = .ok (.i2l, 1) := by decide +kernel
theorem dL_random_9 : decode cL_random 9 = .ok (.lastore, 1) := by decide +kernel
theorem dL_random_10 : decode cL_random 10 = .ok (.goto 7, 3) := by decide +kernel
theorem dL_random_13 : decode cL_random 13 = .ok (.astore 4, 2) := by decide +kernel
theorem dL_random_15 : decode cL_random 15 = .ok (.iconst 1, 1) := by decide +kernel
theorem dL_random_16 : decode cL_random 16 = .ok (.ireturn, 1) := by decide +kernel
theorem dL_random_17 : decode cL_random 17 = .ok (.iconst 0, 1) := by decide +kernel
theorem dL_random_18 : decode cL_random 18 = .ok (.ireturn, 1) := by decide +kernel
theorem dL_cell_0 : decode cL_cell 0 = .ok (.aload_n 3, 1) := by decide +kernel
theorem dL_cell_1 : decode cL_cell 1 = .ok (.iconst 0, 1) := by decide +kernel
theorem dL_cell_2 : decode cL_cell 2 = .ok (.aload_n 0, 1) := by decide +kernel
theorem dL_cell_3 : decode cL_cell 3 = .ok (.iload_n 1, 1) := by decide +kernel
theorem dL_cell_4 : decode cL_cell 4 = .ok (.iload_n 2, 1) := by decide +kernel
theorem dL_cell_5 : decode cL_cell 5 = .ok (.invokevirtual 31, 3) := by decide +kernel
theorem dL_cell_8 : decode cL_cell 8 = .ok (.i2l, 1) := by decide +kernel
theorem dL_cell_9 : decode cL_cell 9 = .ok (.lastore, 1) := by decide +kernel
theorem dL_cell_10 : decode cL_cell 10 = .ok (.goto 11, 3) := by decide +kernel
theorem dL_cell_13 : decode cL_cell 13 = .ok (.astore 4, 2) := by decide +kernel
theorem dL_cell_15 : decode cL_cell 15 = .ok (.iconst 1, 1) := by decide +kernel
theorem dL_cell_16 : decode cL_cell 16 = .ok (.ireturn, 1) := by decide +kernel
theorem dL_cell_17 : decode cL_cell 17 = .ok (.astore 4, 2) := by decide +kernel
theorem dL_cell_19 : decode cL_cell 19 = .ok (.iconst 2, 1) := by decide +kernel
theorem dL_cell_20 : decode cL_cell 20 = .ok (.ireturn, 1) := by decide +kernel
theorem dL_cell_21 : decode cL_cell 21 = .ok (.iconst 0, 1) := by decide +kernel
theorem dL_cell_22 : decode cL_cell 22 = .ok (.ireturn, 1) := by decide +kernel
theorem dL_between_0 : decode cL_between 0 = .ok (.aload 4, 2) := by decide +kernel
theorem dL_between_2 : decode cL_between 2 = .ok (.iconst 0, 1) := by decide +kernel
theorem dL_between_3 : decode cL_between 3 = .ok (.aload_n 0, 1) := by decide +kernel
theorem dL_between_4 : decode cL_between 4 = .ok (.iload_n 1, 1) := by decide +kernel
theorem dL_between_5 : decode cL_between 5 = .ok (.iload_n 2, 1) := by decide +kernel
theorem dL_between_6 : decode cL_between 6 = .ok (.iload_n 3, 1) := by decide +kernel
theorem dL_between_7 : decode cL_between 7 = .ok (.invokevirtual 34, 3) := by decide +kernel
theorem dL_between_10 : decode cL_between 10 = .ok (.i2l, 1) := by decide +kernel
theorem dL_between_11 : decode cL_between 11 = .ok (.lastore, 1) := by decide +kernel
theorem dL_between_12 : decode cL_between 12 = .ok (.goto 7, 3) := by decide +kernel
theorem dL_between_15 : decode cL_between 15 = .ok (.astore 5, 2) := by decide +kernel
theorem dL_between_17 : decode cL_between 17 = .ok (.iconst 1, 1) := by decide +kernel
theorem dL_between_18 : decode cL_between 18 = .ok (.ireturn, 1) := by decide +kernel
theorem dL_between_19 : decode cL_between 19 = .ok (.iconst 0, 1) := by decide +kernel
theorem dL_between_20 : decode cL_between 20 = .ok (.ireturn, 1) := by decide +kernel
theorem dL_count_0 : decode cL_count 0 = .ok (.aload_n 2, 1) := by decide +kernel
theorem dL_count_1 : decode cL_count 1 = .ok (.iconst 0, 1) := by decide +kernel
theorem dL_count_2 : decode cL_count 2 = .ok (.aload_n 0, 1) := by decide +kernel
theorem dL_count_3 : decode cL_count 3 = .ok (.iload_n 1, 1) := by decide +kernel
theorem dL_count_4 : decode cL_count 4 = .ok (.invokevirtual 38, 3) := by decide +kernel
theorem dL_count_7 : decode cL_count 7 = .ok (.i2l, 1) := by decide +kernel
theorem dL_count_8 : decode cL_count 8 = .ok (.lastore, 1) := by decide +kernel
theorem dL_count_9 : decode cL_count 9 = .ok (.goto 6, 3) := by decide +kernel
theorem dL_count_12 : decode cL_count 12 = .ok (.astore_n 3, 1) := by decide +kernel
theorem dL_count_13 : decode cL_count 13 = .ok (.iconst 1, 1) := by decide +kernel
theorem dL_count_14 : decode cL_count 14 = .ok (.ireturn, 1) := by decide +kernel
theorem dL_count_15 : decode cL_count 15 = .ok (.iconst 0, 1) := by decide +kernel
theorem dL_count_16 : decode cL_count 16 = .ok (.ireturn, 1) := by decide +kernel
theorem dL_pour_0 : decode cL_pour 0 = .ok (.aload_n 3, 1) := by decide +kernel
theorem dL_pour_1 : decode cL_pour 1 = .ok (.iconst 0, 1) := by decide +kernel
theorem dL_pour_2 : decode cL_pour 2 = .ok (.aload_n 0, 1) := by decide +kernel
theorem dL_pour_3 : decode cL_pour 3 = .ok (.iload_n 1, 1) := by decide +kernel
theorem dL_pour_4 : decode cL_pour 4 = .ok (.iload_n 2, 1) := by decide +kernel
theorem dL_pour_5 : decode cL_pour 5 = .ok (.invokevirtual 42, 3) := by decide +kernel
theorem dL_pour_8 : decode cL_pour 8 = .ok (.i2l, 1) := by decide +kernel
theorem dL_pour_9 : decode cL_pour 9 = .ok (.lastore, 1) := by decide +kernel
theorem dL_pour_10 : decode cL_pour 10 = .ok (.goto 15, 3) := by decide +kernel
theorem dL_pour_13 : decode cL_pour 13 = .ok (.astore 4, 2) := by decide +kernel
theorem dL_pour_15 : decode cL_pour 15 = .ok (.iconst 1, 1) := by decide +kernel
theorem dL_pour_16 : decode cL_pour 16 = .ok (.ireturn, 1) := by decide +kernel
theorem dL_pour_17 : decode cL_pour 17 = .ok (.astore 4, 2) := by decide +kernel
theorem dL_pour_19 : decode cL_pour 19 = .ok (.iconst 2, 1) := by decide +kernel
theorem dL_pour_20 : decode cL_pour 20 = .ok (.ireturn, 1) := by decide +kernel
theorem dL_pour_21 : decode cL_pour 21 = .ok (.astore 4, 2) := by decide +kernel
theorem dL_pour_23 : decode cL_pour 23 = .ok (.iconst 3, 1) := by decide +kernel
theorem dL_pour_24 : decode cL_pour 24 = .ok (.ireturn, 1) := by decide +kernel
theorem dL_pour_25 : decode cL_pour 25 = .ok (.iconst 0, 1) := by decide +kernel
theorem dL_pour_26 : decode cL_pour 26 = .ok (.ireturn, 1) := by decide +kernel
theorem dL_rain_0 : decode cL_rain 0 = .ok (.aload_n 2, 1) := by decide +kernel
theorem dL_rain_1 : decode cL_rain 1 = .ok (.iconst 0, 1) := by decide +kernel
theorem dL_rain_2 : decode cL_rain 2 = .ok (.aload_n 0, 1) := by decide +kernel
theorem dL_rain_3 : decode cL_rain 3 = .ok (.iload_n 1, 1) := by decide +kernel
theorem dL_rain_4 : decode cL_rain 4 = .ok (.invokevirtual 47, 3) := by decide +kernel
theorem dL_rain_7 : decode cL_rain 7 = .ok (.i2l, 1) := by decide +kernel
theorem dL_rain_8 : decode cL_rain 8 = .ok (.lastore, 1) := by decide +kernel
theorem dL_rain_9 : decode cL_rain 9 = .ok (.goto 9, 3) := by decide +kernel
theorem dL_rain_12 : decode cL_rain 12 = .ok (.astore_n 3, 1) := by decide +kernel
theorem dL_rain_13 : decode cL_rain 13 = .ok (.iconst 1, 1) := by decide +kernel
theorem dL_rain_14 : decode cL_rain 14 = .ok (.ireturn, 1) := by decide +kernel
theorem dL_rain_15 : decode cL_rain 15 = .ok (.astore_n 3, 1) := by decide +kernel
theorem dL_rain_16 : decode cL_rain 16 = .ok (.iconst 2, 1) := by decide +kernel
theorem dL_rain_17 : decode cL_rain 17 = .ok (.ireturn, 1) := by decide +kernel
theorem dL_rain_18 : decode cL_rain 18 = .ok (.iconst 0, 1) := by decide +kernel
theorem dL_rain_19 : decode cL_rain 19 = .ok (.ireturn, 1) := by decide +kernel
theorem dL_evaporate_0 : decode cL_evaporate 0 = .ok (.aload_n 2, 1) := by decide +kernel
theorem dL_evaporate_1 : decode cL_evaporate 1 = .ok (.iconst 0, 1) := by decide +kernel
theorem dL_evaporate_2 : decode cL_evaporate 2 = .ok (.aload_n 0, 1) := by decide +kernel
theorem dL_evaporate_3 : decode cL_evaporate 3 = .ok (.iload_n 1, 1) := by decide +kernel
theorem dL_evaporate_4 : decode cL_evaporate 4 = .ok (.invokevirtual 50, 3) := by decide +kernel
theorem dL_evaporate_7 : decode cL_evaporate 7 = .ok (.i2l, 1) := by decide +kernel
theorem dL_evaporate_8 : decode cL_evaporate 8 = .ok (.lastore, 1) := by decide +kernel
theorem dL_evaporate_9 : decode cL_evaporate 9 = .ok (.goto 6, 3) := by decide +kernel
theorem dL_evaporate_12 : decode cL_evaporate 12 = .ok (.astore_n 3, 1) := by decide +kernel
theorem dL_evaporate_13 : decode cL_evaporate 13 = .ok (.iconst 1, 1) := by decide +kernel
theorem dL_evaporate_14 : decode cL_evaporate 14 = .ok (.ireturn, 1) := by decide +kernel
theorem dL_evaporate_15 : decode cL_evaporate 15 = .ok (.iconst 0, 1) := by decide +kernel
theorem dL_evaporate_16 : decode cL_evaporate 16 = .ok (.ireturn, 1) := by decide +kernel
theorem dL_take_0 : decode cL_take 0 = .ok (.aload_n 3, 1) := by decide +kernel
theorem dL_take_1 : decode cL_take 1 = .ok (.iconst 0, 1) := by decide +kernel
theorem dL_take_2 : decode cL_take 2 = .ok (.aload_n 0, 1) := by decide +kernel
theorem dL_take_3 : decode cL_take 3 = .ok (.iload_n 1, 1) := by decide +kernel
theorem dL_take_4 : decode cL_take 4 = .ok (.iload_n 2, 1) := by decide +kernel
theorem dL_take_5 : decode cL_take 5 = .ok (.invokevirtual 53, 3) := by decide +kernel
theorem dL_take_8 : decode cL_take 8 = .ok (.i2l, 1) := by decide +kernel
theorem dL_take_9 : decode cL_take 9 = .ok (.lastore, 1) := by decide +kernel
theorem dL_take_10 : decode cL_take 10 = .ok (.goto 11, 3) := by decide +kernel
theorem dL_take_13 : decode cL_take 13 = .ok (.astore 4, 2) := by decide +kernel
theorem dL_take_15 : decode cL_take 15 = .ok (.iconst 1, 1) := by decide +kernel
theorem dL_take_16 : decode cL_take 16 = .ok (.ireturn, 1) := by decide +kernel
theorem dL_take_17 : decode cL_take 17 = .ok (.astore 4, 2) := by decide +kernel
theorem dL_take_19 : decode cL_take 19 = .ok (.iconst 2, 1) := by decide +kernel
theorem dL_take_20 : decode cL_take 20 = .ok (.ireturn, 1) := by decide +kernel
theorem dL_take_21 : decode cL_take 21 = .ok (.iconst 0, 1) := by decide +kernel
theorem dL_take_22 : decode cL_take 22 = .ok (.ireturn, 1) := by decide +kernel
theorem dL_balance_0 : decode cL_balance 0 = .ok (.aload_n 2, 1) := by decide +kernel
theorem dL_balance_1 : decode cL_balance 1 = .ok (.iconst 0, 1) := by decide +kernel
theorem dL_balance_2 : decode cL_balance 2 = .ok (.aload_n 0, 1) := by decide +kernel
theorem dL_balance_3 : decode cL_balance 3 = .ok (.iload_n 1, 1) := by decide +kernel
theorem dL_balance_4 : decode cL_balance 4 = .ok (.invokevirtual 56, 3) := by decide +kernel
theorem dL_balance_7 : decode cL_balance 7 = .ok (.lastore, 1) := by decide +kernel
theorem dL_balance_8 : decode cL_balance 8 = .ok (.goto 6, 3) := by decide +kernel
theorem dL_balance_11 : decode cL_balance 11 = .ok (.astore_n 3, 1) := by decide +kernel
theorem dL_balance_12 : decode cL_balance 12 = .ok (.iconst 1, 1) := by decide +kernel
theorem dL_balance_13 : decode cL_balance 13 = .ok (.ireturn, 1) := by decide +kernel
theorem dL_balance_14 : decode cL_balance 14 = .ok (.iconst 0, 1) := by decide +kernel
theorem dL_balance_15 : decode cL_balance 15 = .ok (.ireturn, 1) := by decide +kernel
theorem dL_lake_0 : decode cL_lake 0 = .ok (.aload_n 3, 1) := by decide +kernel
theorem dL_lake_1 : decode cL_lake 1 = .ok (.iconst 0, 1) := by decide +kernel
theorem dL_lake_2 : decode cL_lake 2 = .ok (.aload_n 0, 1) := by decide +kernel
theorem dL_lake_3 : decode cL_lake 3 = .ok (.iload_n 1, 1) := by decide +kernel
theorem dL_lake_4 : decode cL_lake 4 = .ok (.iload_n 2, 1) := by decide +kernel
theorem dL_lake_5 : decode cL_lake 5 = .ok (.invokevirtual 60, 3) := by decide +kernel
theorem dL_lake_8 : decode cL_lake 8 = .ok (.i2l, 1) := by decide +kernel
theorem dL_lake_9 : decode cL_lake 9 = .ok (.lastore, 1) := by decide +kernel
theorem dL_lake_10 : decode cL_lake 10 = .ok (.goto 11, 3) := by decide +kernel
theorem dL_lake_13 : decode cL_lake 13 = .ok (.astore 4, 2) := by decide +kernel
theorem dL_lake_15 : decode cL_lake 15 = .ok (.iconst 1, 1) := by decide +kernel
theorem dL_lake_16 : decode cL_lake 16 = .ok (.ireturn, 1) := by decide +kernel
theorem dL_lake_17 : decode cL_lake 17 = .ok (.astore 4, 2) := by decide +kernel
theorem dL_lake_19 : decode cL_lake 19 = .ok (.iconst 2, 1) := by decide +kernel
theorem dL_lake_20 : decode cL_lake 20 = .ok (.ireturn, 1) := by decide +kernel
theorem dL_lake_21 : decode cL_lake 21 = .ok (.iconst 0, 1) := by decide +kernel
theorem dL_lake_22 : decode cL_lake 22 = .ok (.ireturn, 1) := by decide +kernel
theorem dL_lakeCells_0 : decode cL_lakeCells 0 = .ok (.aload_n 2, 1) := by decide +kernel
theorem dL_lakeCells_1 : decode cL_lakeCells 1 = .ok (.iconst 0, 1) := by decide +kernel
theorem dL_lakeCells_2 : decode cL_lakeCells 2 = .ok (.aload_n 0, 1) := by decide +kernel
theorem dL_lakeCells_3 : decode cL_lakeCells 3 = .ok (.iload_n 1, 1) := by decide +kernel
theorem dL_lakeCells_4 : decode cL_lakeCells 4 = .ok (.invokevirtual 63, 3) := by decide +kernel
theorem dL_lakeCells_7 : decode cL_lakeCells 7 = .ok (.lastore, 1) := by decide +kernel
theorem dL_lakeCells_8 : decode cL_lakeCells 8 = .ok (.goto 6, 3) := by decide +kernel
theorem dL_lakeCells_11 : decode cL_lakeCells 11 = .ok (.astore_n 3, 1) := by decide +kernel
theorem dL_lakeCells_12 : decode cL_lakeCells 12 = .ok (.iconst 1, 1) := by decide +kernel
theorem dL_lakeCells_13 : decode cL_lakeCells 13 = .ok (.ireturn, 1) := by decide +kernel
theorem dL_lakeCells_14 : decode cL_lakeCells 14 = .ok (.iconst 0, 1) := by decide +kernel
theorem dL_lakeCells_15 : decode cL_lakeCells 15 = .ok (.ireturn, 1) := by decide +kernel
theorem dL_level_0 : decode cL_level 0 = .ok (.aload_n 3, 1) := by decide +kernel
theorem dL_level_1 : decode cL_level 1 = .ok (.iconst 0, 1) := by decide +kernel
theorem dL_level_2 : decode cL_level 2 = .ok (.aload_n 0, 1) := by decide +kernel
theorem dL_level_3 : decode cL_level 3 = .ok (.iload_n 1, 1) := by decide +kernel
theorem dL_level_4 : decode cL_level 4 = .ok (.iload_n 2, 1) := by decide +kernel
theorem dL_level_5 : decode cL_level 5 = .ok (.invokevirtual 66, 3) := by decide +kernel
theorem dL_level_8 : decode cL_level 8 = .ok (.i2l, 1) := by decide +kernel
theorem dL_level_9 : decode cL_level 9 = .ok (.lastore, 1) := by decide +kernel
theorem dL_level_10 : decode cL_level 10 = .ok (.goto 11, 3) := by decide +kernel
theorem dL_level_13 : decode cL_level 13 = .ok (.astore 4, 2) := by decide +kernel
theorem dL_level_15 : decode cL_level 15 = .ok (.iconst 1, 1) := by decide +kernel
theorem dL_level_16 : decode cL_level 16 = .ok (.ireturn, 1) := by decide +kernel
theorem dL_level_17 : decode cL_level 17 = .ok (.astore 4, 2) := by decide +kernel
theorem dL_level_19 : decode cL_level 19 = .ok (.iconst 2, 1) := by decide +kernel
theorem dL_level_20 : decode cL_level 20 = .ok (.ireturn, 1) := by decide +kernel
theorem dL_level_21 : decode cL_level 21 = .ok (.iconst 0, 1) := by decide +kernel
theorem dL_level_22 : decode cL_level 22 = .ok (.ireturn, 1) := by decide +kernel
theorem dL_depth_0 : decode cL_depth 0 = .ok (.aload_n 2, 1) := by decide +kernel
theorem dL_depth_1 : decode cL_depth 1 = .ok (.iconst 0, 1) := by decide +kernel
theorem dL_depth_2 : decode cL_depth 2 = .ok (.aload_n 0, 1) := by decide +kernel
theorem dL_depth_3 : decode cL_depth 3 = .ok (.iload_n 1, 1) := by decide +kernel
theorem dL_depth_4 : decode cL_depth 4 = .ok (.invokevirtual 69, 3) := by decide +kernel
theorem dL_depth_7 : decode cL_depth 7 = .ok (.dastore, 1) := by decide +kernel
theorem dL_depth_8 : decode cL_depth 8 = .ok (.goto 6, 3) := by decide +kernel
theorem dL_depth_11 : decode cL_depth 11 = .ok (.astore_n 3, 1) := by decide +kernel
theorem dL_depth_12 : decode cL_depth 12 = .ok (.iconst 1, 1) := by decide +kernel
theorem dL_depth_13 : decode cL_depth 13 = .ok (.ireturn, 1) := by decide +kernel
theorem dL_depth_14 : decode cL_depth 14 = .ok (.iconst 0, 1) := by decide +kernel
theorem dL_depth_15 : decode cL_depth 15 = .ok (.ireturn, 1) := by decide +kernel
theorem dL_course_0 : decode cL_course 0 = .ok (.aload_n 2, 1) := by decide +kernel
theorem dL_course_1 : decode cL_course 1 = .ok (.iconst 0, 1) := by decide +kernel
theorem dL_course_2 : decode cL_course 2 = .ok (.aload_n 0, 1) := by decide +kernel
theorem dL_course_3 : decode cL_course 3 = .ok (.iload_n 1, 1) := by decide +kernel
theorem dL_course_4 : decode cL_course 4 = .ok (.invokevirtual 73, 3) := by decide +kernel
theorem dL_course_7 : decode cL_course 7 = .ok (.lastore, 1) := by decide +kernel
theorem dL_course_8 : decode cL_course 8 = .ok (.goto 6, 3) := by decide +kernel
theorem dL_course_11 : decode cL_course 11 = .ok (.astore_n 3, 1) := by decide +kernel
theorem dL_course_12 : decode cL_course 12 = .ok (.iconst 1, 1) := by decide +kernel
theorem dL_course_13 : decode cL_course 13 = .ok (.ireturn, 1) := by decide +kernel
theorem dL_course_14 : decode cL_course 14 = .ok (.iconst 0, 1) := by decide +kernel
theorem dL_course_15 : decode cL_course 15 = .ok (.ireturn, 1) := by decide +kernel
theorem dL_amountFor_0 : decode cL_amountFor 0 = .ok (.aload_n 3, 1) := by decide +kernel
theorem dL_amountFor_1 : decode cL_amountFor 1 = .ok (.iconst 0, 1) := by decide +kernel
theorem dL_amountFor_2 : decode cL_amountFor 2 = .ok (.aload_n 0, 1) := by decide +kernel
theorem dL_amountFor_3 : decode cL_amountFor 3 = .ok (.iload_n 1, 1) := by decide +kernel
theorem dL_amountFor_4 : decode cL_amountFor 4 = .ok (.iload_n 2, 1) := by decide +kernel
theorem dL_amountFor_5 : decode cL_amountFor 5 = .ok (.invokevirtual 76, 3) := by decide +kernel
theorem dL_amountFor_8 : decode cL_amountFor 8 = .ok (.i2l, 1) := by decide +kernel
theorem dL_amountFor_9 : decode cL_amountFor 9 = .ok (.lastore, 1) := by decide +kernel
theorem dL_amountFor_10 : decode cL_amountFor 10 = .ok (.goto 7, 3) := by decide +kernel
theorem dL_amountFor_13 : decode cL_amountFor 13 = .ok (.astore 4, 2) := by decide +kernel
theorem dL_amountFor_15 : decode cL_amountFor 15 = .ok (.iconst 1, 1) := by decide +kernel
theorem dL_amountFor_16 : decode cL_amountFor 16 = .ok (.ireturn, 1) := by decide +kernel
theorem dL_amountFor_17 : decode cL_amountFor 17 = .ok (.iconst 0, 1) := by decide +kernel
theorem dL_amountFor_18 : decode cL_amountFor 18 = .ok (.ireturn, 1) := by decide +kernel
theorem dL_withoutGate_0 : decode cL_withoutGate 0 = .ok (.aload_n 3, 1) := by decide +kernel
theorem dL_withoutGate_1 : decode cL_withoutGate 1 = .ok (.iconst 0, 1) := by decide +kernel
theorem dL_withoutGate_2 : decode cL_withoutGate 2 = .ok (.aload_n 0, 1) := by decide +kernel
theorem dL_withoutGate_3 : decode cL_withoutGate 3 = .ok (.iload_n 1, 1) := by decide +kernel
theorem dL_withoutGate_4 : decode cL_withoutGate 4 = .ok (.iload_n 2, 1) := by decide +kernel
theorem dL_withoutGate_5 : decode cL_withoutGate 5 = .ok (.invokevirtual 79, 3) := by decide +kernel
theorem dL_withoutGate_8 : decode cL_withoutGate 8 = .ok (.i2l, 1) := by decide +kernel
theorem dL_withoutGate_9 : decode cL_withoutGate 9 = .ok (.lastore, 1) := by decide +kernel
theorem dL_withoutGate_10 : decode cL_withoutGate 10 = .ok (.goto 7, 3) := by decide +kernel
theorem dL_withoutGate_13 : decode cL_withoutGate 13 = .ok (.astore 4, 2) := by decide +kernel
theorem dL_withoutGate_15 : decode cL_withoutGate 15 = .ok (.iconst 1, 1) := by decide +kernel
theorem dL_withoutGate_16 : decode cL_withoutGate 16 = .ok (.ireturn, 1) := by decide +kernel
theorem dL_withoutGate_17 : decode cL_withoutGate 17 = .ok (.iconst 0, 1) := by decide +kernel
theorem dL_withoutGate_18 : decode cL_withoutGate 18 = .ok (.ireturn, 1) := by decide +kernel
theorem dL_append_0 : decode cL_append 0 = .ok (.aload_n 2, 1) := by decide +kernel
theorem dL_append_1 : decode cL_append 1 = .ok (.iconst 0, 1) := by decide +kernel
theorem dL_append_2 : decode cL_append 2 = .ok (.aload_n 0, 1) := by decide +kernel
theorem dL_append_3 : decode cL_append 3 = .ok (.iload_n 1, 1) := by decide +kernel
theorem dL_append_4 : decode cL_append 4 = .ok (.invokevirtual 82, 3) := by decide +kernel
theorem dL_append_7 : decode cL_append 7 = .ok (.i2l, 1) := by decide +kernel
theorem dL_append_8 : decode cL_append 8 = .ok (.lastore, 1) := by decide +kernel
theorem dL_append_9 : decode cL_append 9 = .ok (.goto 9, 3) := by decide +kernel
theorem dL_append_12 : decode cL_append 12 = .ok (.astore_n 3, 1) := by decide +kernel
theorem dL_append_13 : decode cL_append 13 = .ok (.iconst 1, 1) := by decide +kernel
theorem dL_append_14 : decode cL_append 14 = .ok (.ireturn, 1) := by decide +kernel
theorem dL_append_15 : decode cL_append 15 = .ok (.astore_n 3, 1) := by decide +kernel
theorem dL_append_16 : decode cL_append 16 = .ok (.iconst 2, 1) := by decide +kernel
theorem dL_append_17 : decode cL_append 17 = .ok (.ireturn, 1) := by decide +kernel
theorem dL_append_18 : decode cL_append 18 = .ok (.iconst 0, 1) := by decide +kernel
theorem dL_append_19 : decode cL_append 19 = .ok (.ireturn, 1) := by decide +kernel
theorem dL_undo_0 : decode cL_undo 0 = .ok (.aload_n 1, 1) := by decide +kernel
theorem dL_undo_1 : decode cL_undo 1 = .ok (.iconst 0, 1) := by decide +kernel
theorem dL_undo_2 : decode cL_undo 2 = .ok (.aload_n 0, 1) := by decide +kernel
theorem dL_undo_3 : decode cL_undo 3 = .ok (.invokevirtual 85, 3) := by decide +kernel
theorem dL_undo_6 : decode cL_undo 6 = .ok (.i2l, 1) := by decide +kernel
theorem dL_undo_7 : decode cL_undo 7 = .ok (.lastore, 1) := by decide +kernel
theorem dL_undo_8 : decode cL_undo 8 = .ok (.goto 6, 3) := by decide +kernel
theorem dL_undo_11 : decode cL_undo 11 = .ok (.astore_n 2, 1) := by decide +kernel
theorem dL_undo_12 : decode cL_undo 12 = .ok (.iconst 1, 1) := by decide +kernel
theorem dL_undo_13 : decode cL_undo 13 = .ok (.ireturn, 1) := by decide +kernel
theorem dL_undo_14 : decode cL_undo 14 = .ok (.iconst 0, 1) := by decide +kernel
theorem dL_undo_15 : decode cL_undo 15 = .ok (.ireturn, 1) := by decide +kernel
