theorem dX8_lakesAfter_17 : decode cX8_lakesAfter 17 = .ok (.i2l, 1) := by decide +kernel
theorem dX8_lakesAfter_18 : decode cX8_lakesAfter 18 = .ok (.invokevirtual 177, 3) := by decide +kernel
theorem dX8_lakesAfter_21 : decode cX8_lakesAfter 21 = .ok (.iinc 2 1, 3) := by decide +kernel
theorem dX8_lakesAfter_24 : decode cX8_lakesAfter 24 = .ok (.goto (-18), 3) := by decide +kernel
theorem dX8_lakesAfter_27 : decode cX8_lakesAfter 27 = .ok (.aload_n 0, 1) := by decide +kernel
theorem dX8_lakesAfter_28 : decode cX8_lakesAfter 28 = .ok (.invokevirtual 152, 3) := by decide +kernel
theorem dX8_lakesAfter_31 : decode cX8_lakesAfter 31 = .ok (.aload_n 0, 1) := by decide +kernel
theorem dX8_lakesAfter_32 : decode cX8_lakesAfter 32 = .ok (.getfield 149, 3) := by decide +kernel
theorem dX8_lakesAfter_35 : decode cX8_lakesAfter 35 = .ok (.istore_n 2, 1) := by decide +kernel
theorem dX8_lakesAfter_36 : decode cX8_lakesAfter 36 = .ok (.aload_n 0, 1) := by decide +kernel
theorem dX8_lakesAfter_37 : decode cX8_lakesAfter 37 = .ok (.invokevirtual 275, 3) := by decide +kernel
theorem dX8_lakesAfter_40 : decode cX8_lakesAfter 40 = .ok (.iload_n 2, 1) := by decide +kernel
theorem dX8_lakesAfter_41 : decode cX8_lakesAfter 41 = .ok (.ireturn, 1) := by decide +kernel
theorem dX8_rainToJoin_0 : decode cX8_rainToJoin 0 = .ok (.aload_n 0, 1) := by decide +kernel
theorem dX8_rainToJoin_1 : decode cX8_rainToJoin 1 = .ok (.iconst 0, 1) := by decide +kernel
theorem dX8_rainToJoin_2 : decode cX8_rainToJoin 2 = .ok (.putfield 54, 3) := by decide +kernel
theorem dX8_rainToJoin_5 : decode cX8_rainToJoin 5 = .ok (.aload_n 0, 1) := by decide +kernel
theorem dX8_rainToJoin_6 : decode cX8_rainToJoin 6 = .ok (.invokevirtual 152, 3) := by decide +kernel
theorem dX8_rainToJoin_9 : decode cX8_rainToJoin 9 = .ok (.aload_n 0, 1) := by decide +kernel
theorem dX8_rainToJoin_10 : decode cX8_rainToJoin 10 = .ok (.getfield 149, 3) := by decide +kernel
theorem dX8_rainToJoin_13 : decode cX8_rainToJoin 13 = .ok (.istore_n 1, 1) := by decide +kernel
theorem dX8_rainToJoin_14 : decode cX8_rainToJoin 14 = .ok (.iconst 1, 1) := by decide +kernel
theorem dX8_rainToJoin_15 : decode cX8_rainToJoin 15 = .ok (.istore_n 2, 1) := by decide +kernel
theorem dX8_rainToJoin_16 : decode cX8_rainToJoin 16 = .ok (.iload_n 2, 1) := by decide +kernel
theorem dX8_rainToJoin_17 : decode cX8_rainToJoin 17 = .ok (.bipush 40, 2) := by decide +kernel
theorem dX8_rainToJoin_19 : decode cX8_rainToJoin 19 = .ok (.if_icmp .gt 20, 3) := by decide +kernel
theorem dX8_rainToJoin_22 : decode cX8_rainToJoin 22 = .ok (.aload_n 0, 1) := by decide +kernel
theorem dX8_rainToJoin_23 : decode cX8_rainToJoin 23 = .ok (.iload_n 2, 1) := by decide +kernel
theorem dX8_rainToJoin_24 : decode cX8_rainToJoin 24 = .ok (.invokevirtual 283, 3) := by decide +kernel
theorem dX8_rainToJoin_27 : decode cX8_rainToJoin 27 = .ok (.iload_n 1, 1) := by decide +kernel
theorem dX8_rainToJoin_28 : decode cX8_rainToJoin 28 = .ok (.if_icmp .ge 5, 3) := by decide +kernel
theorem dX8_rainToJoin_31 : decode cX8_rainToJoin 31 = .ok (.iload_n 2, 1) := by decide +kernel
theorem dX8_rainToJoin_32 : decode cX8_rainToJoin 32 = .ok (.ireturn, 1) := by decide +kernel
theorem dX8_rainToJoin_33 : decode cX8_rainToJoin 33 = .ok (.iinc 2 1, 3) := by decide +kernel
theorem dX8_rainToJoin_36 : decode cX8_rainToJoin 36 = .ok (.goto (-20), 3) := by decide +kernel
theorem dX8_rainToJoin_39 : decode cX8_rainToJoin 39 = .ok (.iconst (-1), 1) := by decide +kernel
theorem dX8_rainToJoin_40 : decode cX8_rainToJoin 40 = .ok (.ireturn, 1) := by decide +kernel
theorem dX8_withoutGate_0 : decode cX8_withoutGate 0 = .ok (.aload_n 0, 1) := by decide +kernel
theorem dX8_withoutGate_1 : decode cX8_withoutGate 1 = .ok (.aload_n 0, 1) := by decide +kernel
theorem dX8_withoutGate_2 : decode cX8_withoutGate 2 = .ok (.iload_n 1, 1) := by decide +kernel
theorem dX8_withoutGate_3 : decode cX8_withoutGate 3 = .ok (.iload_n 2, 1) := by decide +kernel
theorem dX8_withoutGate_4 : decode cX8_withoutGate 4 = .ok (.invokevirtual 198, 3) := by decide +kernel
theorem dX8_withoutGate_7 : decode cX8_withoutGate 7 = .ok (.iconst 1, 1) := by decide +kernel
theorem dX8_withoutGate_8 : decode cX8_withoutGate 8 = .ok (.iconst 1, 1) := by decide +kernel
theorem dX8_withoutGate_9 : decode cX8_withoutGate 9 = .ok (.invokevirtual 183, 3) := by decide +kernel
theorem dX8_withoutGate_12 : decode cX8_withoutGate 12 = .ok (.ifCond .ne 5, 3) := by decide +kernel
theorem dX8_withoutGate_15 : decode cX8_withoutGate 15 = .ok (.iconst 0, 1) := by decide +kernel
theorem dX8_withoutGate_16 : decode cX8_withoutGate 16 = .ok (.ireturn, 1) := by decide +kernel
theorem dX8_withoutGate_17 : decode cX8_withoutGate 17 = .ok (.aload_n 0, 1) := by decide +kernel
theorem dX8_withoutGate_18 : decode cX8_withoutGate 18 = .ok (.invokevirtual 219, 3) := by decide +kernel
theorem dX8_withoutGate_21 : decode cX8_withoutGate 21 = .ok (.istore_n 3, 1) := by decide +kernel
theorem dX8_withoutGate_22 : decode cX8_withoutGate 22 = .ok (.aload_n 0, 1) := by decide +kernel
theorem dX8_withoutGate_23 : decode cX8_withoutGate 23 = .ok (.invokevirtual 272, 3) := by decide +kernel
theorem dX8_withoutGate_26 : decode cX8_withoutGate 26 = .ok (.aload_n 0, 1) := by decide +kernel
theorem dX8_withoutGate_27 : decode cX8_withoutGate 27 = .ok (.invokevirtual 192, 3) := by decide +kernel
theorem dX8_withoutGate_30 : decode cX8_withoutGate 30 = .ok (.aload_n 0, 1) := by decide +kernel
theorem dX8_withoutGate_31 : decode cX8_withoutGate 31 = .ok (.getfield 7, 3) := by decide +kernel
theorem dX8_withoutGate_34 : decode cX8_withoutGate 34 = .ok (.aload_n 0, 1) := by decide +kernel
theorem dX8_withoutGate_35 : decode cX8_withoutGate 35 = .ok (.iload_n 1, 1) := by decide +kernel
theorem dX8_withoutGate_36 : decode cX8_withoutGate 36 = .ok (.iload_n 2, 1) := by decide +kernel
theorem dX8_withoutGate_37 : decode cX8_withoutGate 37 = .ok (.invokevirtual 81, 3) := by decide +kernel
theorem dX8_withoutGate_40 : decode cX8_withoutGate 40 = .ok (.ldc2_w 109, 3) := by decide +kernel
theorem dX8_withoutGate_43 : decode cX8_withoutGate 43 = .ok (.lastore, 1) := by decide +kernel
theorem dX8_withoutGate_44 : decode cX8_withoutGate 44 = .ok (.aload_n 0, 1) := by decide +kernel
theorem dX8_withoutGate_45 : decode cX8_withoutGate 45 = .ok (.invokevirtual 195, 3) := by decide +kernel
theorem dX8_withoutGate_48 : decode cX8_withoutGate 48 = .ok (.aload_n 0, 1) := by decide +kernel
theorem dX8_withoutGate_49 : decode cX8_withoutGate 49 = .ok (.invokevirtual 219, 3) := by decide +kernel
theorem dX8_withoutGate_52 : decode cX8_withoutGate 52 = .ok (.istore 4, 2) := by decide +kernel
theorem dX8_withoutGate_54 : decode cX8_withoutGate 54 = .ok (.aload_n 0, 1) := by decide +kernel
theorem dX8_withoutGate_55 : decode cX8_withoutGate 55 = .ok (.invokevirtual 275, 3) := by decide +kernel
theorem dX8_withoutGate_58 : decode cX8_withoutGate 58 = .ok (.iload 4, 2) := by decide +kernel
theorem dX8_withoutGate_60 : decode cX8_withoutGate 60 = .ok (.iload_n 3, 1) := by decide +kernel
theorem dX8_withoutGate_61 : decode cX8_withoutGate 61 = .ok (.isub, 1) := by decide +kernel
theorem dX8_withoutGate_62 : decode cX8_withoutGate 62 = .ok (.ireturn, 1) := by decide +kernel
theorem dX8_append_0 : decode cX8_append 0 = .ok (.aload_n 0, 1) := by decide +kernel
theorem dX8_append_1 : decode cX8_append 1 = .ok (.iload_n 1, 1) := by decide +kernel
theorem dX8_append_2 : decode cX8_append 2 = .ok (.i2l, 1) := by decide +kernel
theorem dX8_append_3 : decode cX8_append 3 = .ok (.lconst 0, 1) := by decide +kernel
theorem dX8_append_4 : decode cX8_append 4 = .ok (.ldc2_w 286, 3) := by decide +kernel
theorem dX8_append_7 : decode cX8_append 7 = .ok (.invokestatic 65, 3) := by decide +kernel
theorem dX8_append_10 : decode cX8_append 10 = .ok (.aload_n 0, 1) := by decide +kernel
theorem dX8_append_11 : decode cX8_append 11 = .ok (.getfield 288, 3) := by decide +kernel
theorem dX8_append_14 : decode cX8_append 14 = .ok (.sipush 150, 3) := by decide +kernel
theorem dX8_append_17 : decode cX8_append 17 = .ok (.if_icmp .ge 7, 3) := by decide +kernel
theorem dX8_append_20 : decode cX8_append 20 = .ok (.iconst 1, 1) := by decide +kernel
theorem dX8_append_21 : decode cX8_append 21 = .ok (.goto 4, 3) := by decide +kernel
theorem dX8_append_24 : decode cX8_append 24 = .ok (.iconst 0, 1) := by decide +kernel
theorem dX8_append_25 : decode cX8_append 25 = .ok (.iconst 1, 1) := by decide +kernel
theorem dX8_append_26 : decode cX8_append 26 = .ok (.invokevirtual 183, 3) := by decide +kernel
theorem dX8_append_29 : decode cX8_append 29 = .ok (.ifCond .ne 5, 3) := by decide +kernel
theorem dX8_append_32 : decode cX8_append 32 = .ok (.iconst 0, 1) := by decide +kernel
theorem dX8_append_33 : decode cX8_append 33 = .ok (.ireturn, 1) := by decide +kernel
theorem dX8_append_34 : decode cX8_append 34 = .ok (.aload_n 0, 1) := by decide +kernel
theorem dX8_append_35 : decode cX8_append 35 = .ok (.getfield 44, 3) := by decide +kernel
theorem dX8_append_38 : decode cX8_append 38 = .ok (.aload_n 0, 1) := by decide +kernel
theorem dX8_append_39 : decode cX8_append 39 = .ok (.getfield 288, 3) := by decide +kernel
theorem dX8_append_42 : decode cX8_append 42 = .ok (.iload_n 1, 1) := by decide +kernel
theorem dX8_append_43 : decode cX8_append 43 = .ok (.iastore, 1) := by decide +kernel
theorem dX8_append_44 : decode cX8_append 44 = .ok (.aload_n 0, 1) := by decide +kernel
theorem dX8_append_45 : decode cX8_append 45 = .ok (.dup, 1) := by decide +kernel
theorem dX8_append_46 : decode cX8_append 46 = .ok (.getfield 288, 3) := by decide +kernel
theorem dX8_append_49 : decode cX8_append 49 = .ok (.iconst 1, 1) := by decide +kernel
theorem dX8_append_50 : decode cX8_append 50 = .ok (.iadd, 1) := by decide +kernel
theorem dX8_append_51 : decode cX8_append 51 = .ok (.putfield 288, 3) := by decide +kernel
theorem dX8_append_54 : decode cX8_append 54 = .ok (.aload_n 0, 1) := by decide +kernel
theorem dX8_append_55 : decode cX8_append 55 = .ok (.getfield 288, 3) := by decide +kernel
theorem dX8_append_58 : decode cX8_append 58 = .ok (.ireturn, 1) := by decide +kernel
theorem dX8_clearText_0 : decode cX8_clearText 0 = .ok (.aload_n 0, 1) := by decide +kernel
theorem dX8_clearText_1 : decode cX8_clearText 1 = .ok (.iconst 0, 1) := by decide +kernel
theorem dX8_clearText_2 : decode cX8_clearText 2 = .ok (.putfield 54, 3) := by decide +kernel
theorem dX8_clearText_5 : decode cX8_clearText 5 = .ok (.aload_n 0, 1) := by decide +kernel
theorem dX8_clearText_6 : decode cX8_clearText 6 = .ok (.getfield 288, 3) := by decide +kernel
theorem dX8_clearText_9 : decode cX8_clearText 9 = .ok (.istore_n 1, 1) := by decide +kernel
theorem dX8_clearText_10 : decode cX8_clearText 10 = .ok (.aload_n 0, 1) := by decide +kernel
theorem dX8_clearText_11 : decode cX8_clearText 11 = .ok (.iconst 0, 1) := by decide +kernel
theorem dX8_clearText_12 : decode cX8_clearText 12 = .ok (.putfield 288, 3) := by decide +kernel
theorem dX8_clearText_15 : decode cX8_clearText 15 = .ok (.iload_n 1, 1) := by decide +kernel
theorem dX8_clearText_16 : decode cX8_clearText 16 = .ok (.ireturn, 1) := by decide +kernel
theorem dX8_isFigure_0 : decode cX8_isFigure 0 = .ok (.aload_n 0, 1) := by decide +kernel
theorem dX8_isFigure_1 : decode cX8_isFigure 1 = .ok (.getfield 291, 3) := by decide +kernel
theorem dX8_isFigure_4 : decode cX8_isFigure 4 = .ok (.aload_n 0, 1) := by decide +kernel
theorem dX8_isFigure_5 : decode cX8_isFigure 5 = .ok (.getfield 288, 3) := by decide +kernel
theorem dX8_isFigure_8 : decode cX8_isFigure 8 = .ok (.if_icmp .ge 29, 3) := by decide +kernel
theorem dX8_isFigure_11 : decode cX8_isFigure 11 = .ok (.aload_n 0, 1) := by decide +kernel
theorem dX8_isFigure_12 : decode cX8_isFigure 12 = .ok (.getfield 44, 3) := by decide +kernel
theorem dX8_isFigure_15 : decode cX8_isFigure 15 = .ok (.aload_n 0, 1) := by decide +kernel
theorem dX8_isFigure_16 : decode cX8_isFigure 16 = .ok (.getfield 291, 3) := by decide +kernel
theorem dX8_isFigure_19 : decode cX8_isFigure 19 = .ok (.iaload, 1) := by decide +kernel
theorem dX8_isFigure_20 : decode cX8_isFigure 20 = .ok (.i2l, 1) := by decide +kernel
theorem dX8_isFigure_21 : decode cX8_isFigure 21 = .ok (.ldc2_w 294, 3) := by decide +kernel
theorem dX8_isFigure_24 : decode cX8_isFigure 24 = .ok (.ldc2_w 296, 3) := by decide +kernel
theorem dX8_isFigure_27 : decode cX8_isFigure 27 = .ok (.invokestatic 65, 3) := by decide +kernel
theorem dX8_isFigure_30 : decode cX8_isFigure 30 = .ok (.ifCond .eq 7, 3) := by decide +kernel
theorem dX8_isFigure_33 : decode cX8_isFigure 33 = .ok (.iconst 1, 1) := by decide +kernel
theorem dX8_isFigure_34 : decode cX8_isFigure 34 = .ok (.goto 4, 3) := by decide +kernel
theorem dX8_isFigure_37 : decode cX8_isFigure 37 = .ok (.iconst 0, 1) := by decide +kernel
theorem dX8_isFigure_38 : decode cX8_isFigure 38 = .ok (.ireturn, 1) := by decide +kernel
theorem dX8_passes_0 : decode cX8_passes 0 = .ok (.aload_n 0, 1) := by decide +kernel
theorem dX8_passes_1 : decode cX8_passes 1 = .ok (.getfield 291, 3) := by decide +kernel
theorem dX8_passes_4 : decode cX8_passes 4 = .ok (.aload_n 0, 1) := by decide +kernel
theorem dX8_passes_5 : decode cX8_passes 5 = .ok (.getfield 288, 3) := by decide +kernel
theorem dX8_passes_8 : decode cX8_passes 8 = .ok (.if_icmp .ge 20, 3) := by decide +kernel
theorem dX8_passes_11 : decode cX8_passes 11 = .ok (.aload_n 0, 1) := by decide +kernel
theorem dX8_passes_12 : decode cX8_passes 12 = .ok (.getfield 44, 3) := by decide +kernel
theorem dX8_passes_15 : decode cX8_passes 15 = .ok (.aload_n 0, 1) := by decide +kernel
theorem dX8_passes_16 : decode cX8_passes 16 = .ok (.getfield 291, 3) := by decide +kernel
theorem dX8_passes_19 : decode cX8_passes 19 = .ok (.iaload, 1) := by decide +kernel
theorem dX8_passes_20 : decode cX8_passes 20 = .ok (.iload_n 1, 1) := by decide +kernel
theorem dX8_passes_21 : decode cX8_passes 21 = .ok (.if_icmp .ne 7, 3) := by decide +kernel
theorem dX8_passes_24 : decode cX8_passes 24 = .ok (.iconst 1, 1) := by decide +kernel
theorem dX8_passes_25 : decode cX8_passes 25 = .ok (.goto 4, 3) := by decide +kernel
theorem dX8_passes_28 : decode cX8_passes 28 = .ok (.iconst 0, 1) := by decide +kernel
theorem dX8_passes_29 : decode cX8_passes 29 = .ok (.istore_n 2, 1) := by decide +kernel
theorem dX8_passes_30 : decode cX8_passes 30 = .ok (.aload_n 0, 1) := by decide +kernel
theorem dX8_passes_31 : decode cX8_passes 31 = .ok (.dup, 1) := by decide +kernel
theorem dX8_passes_32 : decode cX8_passes 32 = .ok (.getfield 291, 3) := by decide +kernel
theorem dX8_passes_35 : decode cX8_passes 35 = .ok (.iload_n 2, 1) := by decide +kernel
theorem dX8_passes_36 : decode cX8_passes 36 = .ok (.ifCond .eq 7, 3) := by decide +kernel
theorem dX8_passes_39 : decode cX8_passes 39 = .ok (.iconst 1, 1) := by decide +kernel
theorem dX8_passes_40 : decode cX8_passes 40 = .ok (.goto 4, 3) := by decide +kernel
theorem dX8_passes_43 : decode cX8_passes 43 = .ok (.iconst 0, 1) := by decide +kernel
theorem dX8_passes_44 : decode cX8_passes 44 = .ok (.iadd, 1) := by decide +kernel
theorem dX8_passes_45 : decode cX8_passes 45 = .ok (.putfield 291, 3) := by decide +kernel
theorem dX8_passes_48 : decode cX8_passes 48 = .ok (.iload_n 2, 1) := by decide +kernel
theorem dX8_passes_49 : decode cX8_passes 49 = .ok (.ireturn, 1) := by decide +kernel
theorem dX8_readsSize_0 : decode cX8_readsSize 0 = .ok (.aload_n 0, 1) := by decide +kernel
theorem dX8_readsSize_1 : decode cX8_readsSize 1 = .ok (.getfield 291, 3) := by decide +kernel
theorem dX8_readsSize_4 : decode cX8_readsSize 4 = .ok (.aload_n 0, 1) := by decide +kernel
theorem dX8_readsSize_5 : decode cX8_readsSize 5 = .ok (.getfield 288, 3) := by decide +kernel
theorem dX8_readsSize_8 : decode cX8_readsSize 8 = .ok (.if_icmp .ge 29, 3) := by decide +kernel
theorem dX8_readsSize_11 : decode cX8_readsSize 11 = .ok (.aload_n 0, 1) := by decide +kernel
theorem dX8_readsSize_12 : decode cX8_readsSize 12 = .ok (.getfield 44, 3) := by decide +kernel
theorem dX8_readsSize_15 : decode cX8_readsSize 15 = .ok (.aload_n 0, 1) := by decide +kernel
theorem dX8_readsSize_16 : decode cX8_readsSize 16 = .ok (.getfield 291, 3) := by decide +kernel
theorem dX8_readsSize_19 : decode cX8_readsSize 19 = .ok (.iaload, 1) := by decide +kernel
theorem dX8_readsSize_20 : decode cX8_readsSize 20 = .ok (.i2l, 1) := by decide +kernel
theorem dX8_readsSize_21 : decode cX8_readsSize 21 = .ok (.ldc2_w 298, 3) := by decide +kernel
theorem dX8_readsSize_24 : decode cX8_readsSize 24 = .ok (.ldc2_w 300, 3) := by decide +kernel
theorem dX8_readsSize_27 : decode cX8_readsSize 27 = .ok (.invokestatic 65, 3) := by decide +kernel
theorem dX8_readsSize_30 : decode cX8_readsSize 30 = .ok (.ifCond .eq 7, 3) := by decide +kernel
theorem dX8_readsSize_33 : decode cX8_readsSize 33 = .ok (.iconst 1, 1) := by decide +kernel
theorem dX8_readsSize_34 : decode cX8_readsSize 34 = .ok (.goto 4, 3) := by decide +kernel
theorem dX8_readsSize_37 : decode cX8_readsSize 37 = .ok (.iconst 0, 1) := by decide +kernel
theorem dX8_readsSize_38 : decode cX8_readsSize 38 = .ok (.istore_n 1, 1) := by decide +kernel
theorem dX8_readsSize_39 : decode cX8_readsSize 39 = .ok (.aload_n 0, 1) := by decide +kernel
theorem dX8_readsSize_40 : decode cX8_readsSize 40 = .ok (.iload_n 1, 1) := by decide +kernel
theorem dX8_readsSize_41 : decode cX8_readsSize 41 = .ok (.ifCond .eq 18, 3) := by decide +kernel
theorem dX8_readsSize_44 : decode cX8_readsSize 44 = .ok (.aload_n 0, 1) := by decide +kernel
theorem dX8_readsSize_45 : decode cX8_readsSize 45 = .ok (.getfield 44, 3) := by decide +kernel
theorem dX8_readsSize_48 : decode cX8_readsSize 48 = .ok (.aload_n 0, 1) := by decide +kernel
theorem dX8_readsSize_49 : decode cX8_readsSize 49 = .ok (.getfield 291, 3) := by decide +kernel
theorem dX8_readsSize_52 : decode cX8_readsSize 52 = .ok (.iaload, 1) := by decide +kernel
theorem dX8_readsSize_53 : decode cX8_readsSize 53 = .ok (.bipush 48, 2) := by decide +kernel
theorem dX8_readsSize_55 : decode cX8_readsSize 55 = .ok (.isub, 1) := by decide +kernel
theorem dX8_readsSize_56 : decode cX8_readsSize 56 = .ok (.goto 4, 3) := by decide +kernel
theorem dX8_readsSize_59 : decode cX8_readsSize 59 = .ok (.iconst 0, 1) := by decide +kernel
theorem dX8_readsSize_60 : decode cX8_readsSize 60 = .ok (.putfield 302, 3) := by decide +kernel
theorem dX8_readsSize_63 : decode cX8_readsSize 63 = .ok (.aload_n 0, 1) := by decide +kernel
theorem dX8_readsSize_64 : decode cX8_readsSize 64 = .ok (.dup, 1) := by decide +kernel
theorem dX8_readsSize_65 : decode cX8_readsSize 65 = .ok (.getfield 291, 3) := by decide +kernel
theorem dX8_readsSize_68 : decode cX8_readsSize 68 = .ok (.iload_n 1, 1) := by decide +kernel
theorem dX8_readsSize_69 : decode cX8_readsSize 69 = .ok (.ifCond .eq 7, 3) := by decide +kernel
theorem dX8_readsSize_72 : decode cX8_readsSize 72 = .ok (.iconst 1, 1) := by decide +kernel
theorem dX8_readsSize_73 : decode cX8_readsSize 73 = .ok (.goto 4, 3) := by decide +kernel
theorem dX8_readsSize_76 : decode cX8_readsSize 76 = .ok (.iconst 0, 1) := by decide +kernel
theorem dX8_readsSize_77 : decode cX8_readsSize 77 = .ok (.iadd, 1) := by decide +kernel
theorem dX8_readsSize_78 : decode cX8_readsSize 78 = .ok (.putfield 291, 3) := by decide +kernel
theorem dX8_readsSize_81 : decode cX8_readsSize 81 = .ok (.iload_n 1, 1) := by decide +kernel
theorem dX8_readsSize_82 : decode cX8_readsSize 82 = .ok (.ireturn, 1) := by decide +kernel
theorem dX8_readsNumber_0 : decode cX8_readsNumber 0 = .ok (.aload_n 0, 1) := by decide +kernel
theorem dX8_readsNumber_1 : decode cX8_readsNumber 1 = .ok (.getfield 291, 3) := by decide +kernel
theorem dX8_readsNumber_4 : decode cX8_readsNumber 4 = .ok (.istore_n 1, 1) := by decide +kernel
theorem dX8_readsNumber_5 : decode cX8_readsNumber 5 = .ok (.aload_n 0, 1) := by decide +kernel
theorem dX8_readsNumber_6 : decode cX8_readsNumber 6 = .ok (.iconst 0, 1) := by decide +kernel
theorem dX8_readsNumber_7 : decode cX8_readsNumber 7 = .ok (.putfield 302, 3) := by decide +kernel
theorem dX8_readsNumber_10 : decode cX8_readsNumber 10 = .ok (.aload_n 0, 1) := by decide +kernel
theorem dX8_readsNumber_11 : decode cX8_readsNumber 11 = .ok (.invokevirtual 305, 3) := by decide +kernel
theorem dX8_readsNumber_14 : decode cX8_readsNumber 14 = .ok (.ifCond .eq 50, 3) := by decide +kernel
theorem dX8_readsNumber_17 : decode cX8_readsNumber 17 = .ok (.aload_n 0, 1) := by decide +kernel
theorem dX8_readsNumber_18 : decode cX8_readsNumber 18 = .ok (.getfield 291, 3) := by decide +kernel
theorem dX8_readsNumber_21 : decode cX8_readsNumber 21 = .ok (.iload_n 1, 1) := by decide +kernel
theorem dX8_readsNumber_22 : decode cX8_readsNumber 22 = .ok (.iconst 2, 1) := by decide +kernel
theorem dX8_readsNumber_23 : decode cX8_readsNumber 23 = .ok (.iadd, 1) := by decide +kernel
theorem dX8_readsNumber_24 : decode cX8_readsNumber 24 = .ok (.if_icmp .ge 40, 3) := by decide +kernel
theorem dX8_readsNumber_27 : decode cX8_readsNumber 27 = .ok (.aload_n 0, 1) := by decide +kernel
theorem dX8_readsNumber_28 : decode cX8_readsNumber 28 = .ok (.bipush 10, 2) := by decide +kernel
theorem dX8_readsNumber_30 : decode cX8_readsNumber 30 = .ok (.aload_n 0, 1) := by decide +kernel
theorem dX8_readsNumber_31 : decode cX8_readsNumber 31 = .ok (.getfield 302, 3) := by decide +kernel
theorem dX8_readsNumber_34 : decode cX8_readsNumber 34 = .ok (.imul, 1) := by decide +kernel
theorem dX8_readsNumber_35 : decode cX8_readsNumber 35 = .ok (.aload_n 0, 1) := by decide +kernel
theorem dX8_readsNumber_36 : decode cX8_readsNumber 36 = .ok (.getfield 44, 3) := by decide +kernel
theorem dX8_readsNumber_39 : decode cX8_readsNumber 39 = .ok (.aload_n 0, 1) := by decide +kernel
theorem dX8_readsNumber_40 : decode cX8_readsNumber 40 = .ok (.getfield 291, 3) := by decide +kernel
theorem dX8_readsNumber_43 : decode cX8_readsNumber 43 = .ok (.iaload, 1) := by decide +kernel
theorem dX8_readsNumber_44 : decode cX8_readsNumber 44 = .ok (.iadd, 1) := by decide +kernel
theorem dX8_readsNumber_45 : decode cX8_readsNumber 45 = .ok (.bipush 48, 2) := by decide +kernel
theorem dX8_readsNumber_47 : decode cX8_readsNumber 47 = .ok (.isub, 1) := by decide +kernel
theorem dX8_readsNumber_48 : decode cX8_readsNumber 48 = .ok (.putfield 302, 3) := by decide +kernel
theorem dX8_readsNumber_51 : decode cX8_readsNumber 51 = .ok (.aload_n 0, 1) := by decide +kernel
theorem dX8_readsNumber_52 : decode cX8_readsNumber 52 = .ok (.dup, 1) := by decide +kernel
theorem dX8_readsNumber_53 : decode cX8_readsNumber 53 = .ok (.getfield 291, 3) := by decide +kernel
theorem dX8_readsNumber_56 : decode cX8_readsNumber 56 = .ok (.iconst 1, 1) := by decide +kernel
theorem dX8_readsNumber_57 : decode cX8_readsNumber 57 = .ok (.iadd, 1) := by decide +kernel
theorem dX8_readsNumber_58 : decode cX8_readsNumber 58 = .ok (.putfield 291, 3) := by decide +kernel
theorem dX8_readsNumber_61 : decode cX8_readsNumber 61 = .ok (.goto (-51), 3) := by decide +kernel
theorem dX8_readsNumber_64 : decode cX8_readsNumber 64 = .ok (.aload_n 0, 1) := by decide +kernel
theorem dX8_readsNumber_65 : decode cX8_readsNumber 65 = .ok (.getfield 291, 3) := by decide +kernel
theorem dX8_readsNumber_68 : decode cX8_readsNumber 68 = .ok (.iload_n 1, 1) := by decide +kernel
theorem dX8_readsNumber_69 : decode cX8_readsNumber 69 = .ok (.if_icmp .le 14, 3) := by decide +kernel
theorem dX8_readsNumber_72 : decode cX8_readsNumber 72 = .ok (.aload_n 0, 1) := by decide +kernel
theorem dX8_readsNumber_73 : decode cX8_readsNumber 73 = .ok (.invokevirtual 305, 3) := by decide +kernel
theorem dX8_readsNumber_76 : decode cX8_readsNumber 76 = .ok (.ifCond .ne 7, 3) := by decide +kernel
theorem dX8_readsNumber_79 : decode cX8_readsNumber 79 = .ok (.iconst 1, 1) := by decide +kernel
theorem dX8_readsNumber_80 : decode cX8_readsNumber 80 = .ok (.goto 4, 3) := by decide +kernel
theorem dX8_readsNumber_83 : decode cX8_readsNumber 83 = .ok (.iconst 0, 1) := by decide +kernel
theorem dX8_readsNumber_84 : decode cX8_readsNumber 84 = .ok (.ireturn, 1) := by decide +kernel
theorem dX8_readsCell_0 : decode cX8_readsCell 0 = .ok (.aload_n 0, 1) := by decide +kernel
theorem dX8_readsCell_1 : decode cX8_readsCell 1 = .ok (.getfield 291, 3) := by decide +kernel
theorem dX8_readsCell_4 : decode cX8_readsCell 4 = .ok (.istore_n 2, 1) := by decide +kernel
theorem dX8_readsCell_5 : decode cX8_readsCell 5 = .ok (.aload_n 0, 1) := by decide +kernel
theorem dX8_readsCell_6 : decode cX8_readsCell 6 = .ok (.invokevirtual 309, 3) := by decide +kernel
theorem dX8_readsCell_9 : decode cX8_readsCell 9 = .ok (.ifCond .ne 5, 3) := by decide +kernel
theorem dX8_readsCell_12 : decode cX8_readsCell 12 = .ok (.iconst 0, 1) := by decide +kernel
theorem dX8_readsCell_13 : decode cX8_readsCell 13 = .ok (.ireturn, 1) := by decide +kernel
theorem dX8_readsCell_14 : decode cX8_readsCell 14 = .ok (.aload_n 0, 1) := by decide +kernel
theorem dX8_readsCell_15 : decode cX8_readsCell 15 = .ok (.aload_n 0, 1) := by decide +kernel
theorem dX8_readsCell_16 : decode cX8_readsCell 16 = .ok (.getfield 302, 3) := by decide +kernel
theorem dX8_readsCell_19 : decode cX8_readsCell 19 = .ok (.invokevirtual 73, 3) := by decide +kernel
theorem dX8_readsCell_22 : decode cX8_readsCell 22 = .ok (.ifCond .eq 24, 3) := by decide +kernel
theorem dX8_readsCell_25 : decode cX8_readsCell 25 = .ok (.iload_n 1, 1) := by decide +kernel
theorem dX8_readsCell_26 : decode cX8_readsCell 26 = .ok (.iconst (-1), 1) := by decide +kernel
theorem dX8_readsCell_27 : decode cX8_readsCell 27 = .ok (.if_icmp .eq 15, 3) := by decide +kernel
theorem dX8_readsCell_30 : decode cX8_readsCell 30 = .ok (.aload_n 0, 1) := by decide +kernel
theorem dX8_readsCell_31 : decode cX8_readsCell 31 = .ok (.iload_n 1, 1) := by decide +kernel
theorem dX8_readsCell_32 : decode cX8_readsCell 32 = .ok (.aload_n 0, 1) := by decide +kernel
theorem dX8_readsCell_33 : decode cX8_readsCell 33 = .ok (.getfield 302, 3) := by decide +kernel
theorem dX8_readsCell_36 : decode cX8_readsCell 36 = .ok (.invokevirtual 77, 3) := by decide +kernel
theorem dX8_readsCell_39 : decode cX8_readsCell 39 = .ok (.ifCond .eq 7, 3) := by decide +kernel
theorem dX8_readsCell_42 : decode cX8_readsCell 42 = .ok (.iconst 1, 1) := by decide +kernel
theorem dX8_readsCell_43 : decode cX8_readsCell 43 = .ok (.goto 4, 3) := by decide +kernel
theorem dX8_readsCell_46 : decode cX8_readsCell 46 = .ok (.iconst 0, 1) := by decide +kernel
theorem dX8_readsCell_47 : decode cX8_readsCell 47 = .ok (.istore_n 3, 1) := by decide +kernel
theorem dX8_readsCell_48 : decode cX8_readsCell 48 = .ok (.aload_n 0, 1) := by decide +kernel
theorem dX8_readsCell_49 : decode cX8_readsCell 49 = .ok (.iload_n 3, 1) := by decide +kernel
theorem dX8_readsCell_50 : decode cX8_readsCell 50 = .ok (.ifCond .eq 10, 3) := by decide +kernel
theorem dX8_readsCell_53 : decode cX8_readsCell 53 = .ok (.aload_n 0, 1) := by decide +kernel
theorem dX8_readsCell_54 : decode cX8_readsCell 54 = .ok (.getfield 291, 3) := by decide +kernel
theorem dX8_readsCell_57 : decode cX8_readsCell 57 = .ok (.goto 4, 3) := by decide +kernel
theorem dX8_readsCell_60 : decode cX8_readsCell 60 = .ok (.iload_n 2, 1) := by decide +kernel
theorem dX8_readsCell_61 : decode cX8_readsCell 61 = .ok (.putfield 291, 3) := by decide +kernel
theorem dX8_readsCell_64 : decode cX8_readsCell 64 = .ok (.iload_n 3, 1) := by decide +kernel
theorem dX8_readsCell_65 : decode cX8_readsCell 65 = .ok (.ireturn, 1) := by decide +kernel
theorem dX8_readsGate_0 : decode cX8_readsGate 0 = .ok (.aload_n 0, 1) := by decide +kernel
theorem dX8_readsGate_1 : decode cX8_readsGate 1 = .ok (.iconst (-1), 1) := by decide +kernel
theorem dX8_readsGate_2 : decode cX8_readsGate 2 = .ok (.invokevirtual 312, 3) := by decide +kernel
theorem dX8_readsGate_5 : decode cX8_readsGate 5 = .ok (.ifCond .ne 5, 3) := by decide +kernel
theorem dX8_readsGate_8 : decode cX8_readsGate 8 = .ok (.iconst 0, 1) := by decide +kernel
theorem dX8_readsGate_9 : decode cX8_readsGate 9 = .ok (.ireturn, 1) := by decide +kernel
theorem dX8_readsGate_10 : decode cX8_readsGate 10 = .ok (.aload_n 0, 1) := by decide +kernel
theorem dX8_readsGate_11 : decode cX8_readsGate 11 = .ok (.getfield 302, 3) := by decide +kernel
theorem dX8_readsGate_14 : decode cX8_readsGate 14 = .ok (.istore_n 1, 1) := by decide +kernel
theorem dX8_readsGate_15 : decode cX8_readsGate 15 = .ok (.aload_n 0, 1) := by decide +kernel
theorem dX8_readsGate_16 : decode cX8_readsGate 16 = .ok (.bipush 44, 2) := by decide +kernel
theorem dX8_readsGate_18 : decode cX8_readsGate 18 = .ok (.invokevirtual 315, 3) := by decide +kernel
theorem dX8_readsGate_21 : decode cX8_readsGate 21 = .ok (.ifCond .eq 11, 3) := by decide +kernel
theorem dX8_readsGate_24 : decode cX8_readsGate 24 = .ok (.aload_n 0, 1) := by decide +kernel
theorem dX8_readsGate_25 : decode cX8_readsGate 25 = .ok (.iload_n 1, 1) := by decide +kernel
theorem dX8_readsGate_26 : decode cX8_readsGate 26 = .ok (.invokevirtual 312, 3) := by decide +kernel
theorem dX8_readsGate_29 : decode cX8_readsGate 29 = .ok (.ifCond .ne 5, 3) := by decide +kernel
theorem dX8_readsGate_32 : decode cX8_readsGate 32 = .ok (.iconst 0, 1) := by decide +kernel
theorem dX8_readsGate_33 : decode cX8_readsGate 33 = .ok (.ireturn, 1) := by decide +kernel
theorem dX8_readsGate_34 : decode cX8_readsGate 34 = .ok (.aload_n 0, 1) := by decide +kernel
theorem dX8_readsGate_35 : decode cX8_readsGate 35 = .ok (.getfield 302, 3) := by decide +kernel
theorem dX8_readsGate_38 : decode cX8_readsGate 38 = .ok (.istore_n 2, 1) := by decide +kernel
theorem dX8_readsGate_39 : decode cX8_readsGate 39 = .ok (.aload_n 0, 1) := by decide +kernel
theorem dX8_readsGate_40 : decode cX8_readsGate 40 = .ok (.bipush 44, 2) := by decide +kernel
theorem dX8_readsGate_42 : decode cX8_readsGate 42 = .ok (.invokevirtual 315, 3) := by decide +kernel
theorem dX8_readsGate_45 : decode cX8_readsGate 45 = .ok (.ifCond .eq 10, 3) := by decide +kernel
theorem dX8_readsGate_48 : decode cX8_readsGate 48 = .ok (.aload_n 0, 1) := by decide +kernel
theorem dX8_readsGate_49 : decode cX8_readsGate 49 = .ok (.invokevirtual 309, 3) := by decide +kernel
theorem dX8_readsGate_52 : decode cX8_readsGate 52 = .ok (.ifCond .ne 5, 3) := by decide +kernel
theorem dX8_readsGate_55 : decode cX8_readsGate 55 = .ok (.iconst 0, 1) := by decide +kernel
theorem dX8_readsGate_56 : decode cX8_readsGate 56 = .ok (.ireturn, 1) := by decide +kernel
theorem dX8_readsGate_57 : decode cX8_readsGate 57 = .ok (.aload_n 0, 1) := by decide +kernel
theorem dX8_readsGate_58 : decode cX8_readsGate 58 = .ok (.getfield 7, 3) := by decide +kernel
theorem dX8_readsGate_61 : decode cX8_readsGate 61 = .ok (.aload_n 0, 1) := by decide +kernel
theorem dX8_readsGate_62 : decode cX8_readsGate 62 = .ok (.iload_n 1, 1) := by decide +kernel
theorem dX8_readsGate_63 : decode cX8_readsGate 63 = .ok (.iload_n 2, 1) := by decide +kernel
theorem dX8_readsGate_64 : decode cX8_readsGate 64 = .ok (.invokevirtual 81, 3) := by decide +kernel
theorem dX8_readsGate_67 : decode cX8_readsGate 67 = .ok (.aload_n 0, 1) := by decide +kernel
theorem dX8_readsGate_68 : decode cX8_readsGate 68 = .ok (.getfield 302, 3) := by decide +kernel
theorem dX8_readsGate_71 : decode cX8_readsGate 71 = .ok (.i2l, 1) := by decide +kernel
theorem dX8_readsGate_72 : decode cX8_readsGate 72 = .ok (.lastore, 1) := by decide +kernel
theorem dX8_readsGate_73 : decode cX8_readsGate 73 = .ok (.iconst 1, 1) := by decide +kernel
theorem dX8_readsGate_74 : decode cX8_readsGate 74 = .ok (.ireturn, 1) := by decide +kernel
theorem dX8_readsDrain_0 : decode cX8_readsDrain 0 = .ok (.aload_n 0, 1) := by decide +kernel
theorem dX8_readsDrain_1 : decode cX8_readsDrain 1 = .ok (.iconst (-1), 1) := by decide +kernel
theorem dX8_readsDrain_2 : decode cX8_readsDrain 2 = .ok (.invokevirtual 312, 3) := by decide +kernel
theorem dX8_readsDrain_5 : decode cX8_readsDrain 5 = .ok (.istore_n 1, 1) := by decide +kernel
theorem dX8_readsDrain_6 : decode cX8_readsDrain 6 = .ok (.aload_n 0, 1) := by decide +kernel
theorem dX8_readsDrain_7 : decode cX8_readsDrain 7 = .ok (.getfield 7, 3) := by decide +kernel
theorem dX8_readsDrain_10 : decode cX8_readsDrain 10 = .ok (.iconst 2, 1) := by decide +kernel
theorem dX8_readsDrain_11 : decode cX8_readsDrain 11 = .ok (.dup2, 1) := by decide +kernel
theorem dX8_readsDrain_12 : decode cX8_readsDrain 12 = .ok (.laload, 1) := by decide +kernel
theorem dX8_readsDrain_13 : decode cX8_readsDrain 13 = .ok (.iload_n 1, 1) := by decide +kernel
theorem dX8_readsDrain_14 : decode cX8_readsDrain 14 = .ok (.ifCond .eq 12, 3) := by decide +kernel
theorem dX8_readsDrain_17 : decode cX8_readsDrain 17 = .ok (.lconst 1, 1) := by decide +kernel
theorem dX8_readsDrain_18 : decode cX8_readsDrain 18 = .ok (.aload_n 0, 1) := by decide +kernel
theorem dX8_readsDrain_19 : decode cX8_readsDrain 19 = .ok (.getfield 302, 3) := by decide +kernel
theorem dX8_readsDrain_22 : decode cX8_readsDrain 22 = .ok (.lshl, 1) := by decide +kernel
theorem dX8_readsDrain_23 : decode cX8_readsDrain 23 = .ok (.goto 4, 3) := by decide +kernel
theorem dX8_readsDrain_26 : decode cX8_readsDrain 26 = .ok (.lconst 0, 1) := by decide +kernel
theorem dX8_readsDrain_27 : decode cX8_readsDrain 27 = .ok (.lor, 1) := by decide +kernel
theorem dX8_readsDrain_28 : decode cX8_readsDrain 28 = .ok (.lastore, 1) := by decide +kernel
theorem dX8_readsDrain_29 : decode cX8_readsDrain 29 = .ok (.iload_n 1, 1) := by decide +kernel
theorem dX8_readsDrain_30 : decode cX8_readsDrain 30 = .ok (.ireturn, 1) := by decide +kernel
theorem dX8_readsHeights_0 : decode cX8_readsHeights 0 = .ok (.iconst 0, 1) := by decide +kernel
theorem dX8_readsHeights_1 : decode cX8_readsHeights 1 = .ok (.istore_n 1, 1) := by decide +kernel
theorem dX8_readsHeights_2 : decode cX8_readsHeights 2 = .ok (.iload_n 1, 1) := by decide +kernel
theorem dX8_readsHeights_3 : decode cX8_readsHeights 3 = .ok (.aload_n 0, 1) := by decide +kernel
theorem dX8_readsHeights_4 : decode cX8_readsHeights 4 = .ok (.invokevirtual 61, 3) := by decide +kernel
theorem dX8_readsHeights_7 : decode cX8_readsHeights 7 = .ok (.if_icmp .ge 45, 3) := by decide +kernel
theorem dX8_readsHeights_10 : decode cX8_readsHeights 10 = .ok (.iload_n 1, 1) := by decide +kernel
theorem dX8_readsHeights_11 : decode cX8_readsHeights 11 = .ok (.ifCond .le 12, 3) := by decide +kernel
theorem dX8_readsHeights_14 : decode cX8_readsHeights 14 = .ok (.aload_n 0, 1) := by decide +kernel
theorem dX8_readsHeights_15 : decode cX8_readsHeights 15 = .ok (.bipush 44, 2) := by decide +kernel
theorem dX8_readsHeights_17 : decode cX8_readsHeights 17 = .ok (.invokevirtual 315, 3) := by decide +kernel
theorem dX8_readsHeights_20 : decode cX8_readsHeights 20 = .ok (.ifCond .eq 10, 3) := by decide +kernel
theorem dX8_readsHeights_23 : decode cX8_readsHeights 23 = .ok (.aload_n 0, 1) := by decide +kernel
theorem dX8_readsHeights_24 : decode cX8_readsHeights 24 = .ok (.invokevirtual 309, 3) := by decide +kernel
theorem dX8_readsHeights_27 : decode cX8_readsHeights 27 = .ok (.ifCond .ne 5, 3) := by decide +kernel
theorem dX8_readsHeights_30 : decode cX8_readsHeights 30 = .ok (.iconst 0, 1) := by decide +kernel
theorem dX8_readsHeights_31 : decode cX8_readsHeights 31 = .ok (.ireturn, 1) := by decide +kernel
theorem dX8_readsHeights_32 : decode cX8_readsHeights 32 = .ok (.aload_n 0, 1) := by decide +kernel
theorem dX8_readsHeights_33 : decode cX8_readsHeights 33 = .ok (.getfield 7, 3) := by decide +kernel
theorem dX8_readsHeights_36 : decode cX8_readsHeights 36 = .ok (.bipush 8, 2) := by decide +kernel
theorem dX8_readsHeights_38 : decode cX8_readsHeights 38 = .ok (.iload_n 1, 1) := by decide +kernel
theorem dX8_readsHeights_39 : decode cX8_readsHeights 39 = .ok (.iadd, 1) := by decide +kernel
theorem dX8_readsHeights_40 : decode cX8_readsHeights 40 = .ok (.aload_n 0, 1) := by decide +kernel
theorem dX8_readsHeights_41 : decode cX8_readsHeights 41 = .ok (.getfield 302, 3) := by decide +kernel
theorem dX8_readsHeights_44 : decode cX8_readsHeights 44 = .ok (.i2l, 1) := by decide +kernel
theorem dX8_readsHeights_45 : decode cX8_readsHeights 45 = .ok (.lastore, 1) := by decide +kernel
theorem dX8_readsHeights_46 : decode cX8_readsHeights 46 = .ok (.iinc 1 1, 3) := by decide +kernel
theorem dX8_readsHeights_49 : decode cX8_readsHeights 49 = .ok (.goto (-47), 3) := by decide +kernel
theorem dX8_readsHeights_52 : decode cX8_readsHeights 52 = .ok (.iconst 1, 1) := by decide +kernel
theorem dX8_readsHeights_53 : decode cX8_readsHeights 53 = .ok (.ireturn, 1) := by decide +kernel
theorem dX8_reads_0 : decode cX8_reads 0 = .ok (.aload_n 0, 1) := by decide +kernel
theorem dX8_reads_1 : decode cX8_reads 1 = .ok (.iconst 0, 1) := by decide +kernel
theorem dX8_reads_2 : decode cX8_reads 2 = .ok (.putfield 291, 3) := by decide +kernel
theorem dX8_reads_5 : decode cX8_reads 5 = .ok (.aload_n 0, 1) := by decide +kernel
theorem dX8_reads_6 : decode cX8_reads 6 = .ok (.invokevirtual 318, 3) := by decide +kernel
theorem dX8_reads_9 : decode cX8_reads 9 = .ok (.ifCond .ne 5, 3) := by decide +kernel
theorem dX8_reads_12 : decode cX8_reads 12 = .ok (.iconst 0, 1) := by decide +kernel
theorem dX8_reads_13 : decode cX8_reads 13 = .ok (.ireturn, 1) := by decide +kernel
theorem dX8_reads_14 : decode cX8_reads 14 = .ok (.aload_n 0, 1) := by decide +kernel
theorem dX8_reads_15 : decode cX8_reads 15 = .ok (.getfield 302, 3) := by decide +kernel
theorem dX8_reads_18 : decode cX8_reads 18 = .ok (.istore_n 1, 1) := by decide +kernel
theorem dX8_reads_19 : decode cX8_reads 19 = .ok (.aload_n 0, 1) := by decide +kernel
theorem dX8_reads_20 : decode cX8_reads 20 = .ok (.invokevirtual 318, 3) := by decide +kernel
theorem dX8_reads_23 : decode cX8_reads 23 = .ok (.ifCond .ne 5, 3) := by decide +kernel
theorem dX8_reads_26 : decode cX8_reads 26 = .ok (.iconst 0, 1) := by decide +kernel
theorem dX8_reads_27 : decode cX8_reads 27 = .ok (.ireturn, 1) := by decide +kernel
theorem dX8_reads_28 : decode cX8_reads 28 = .ok (.aload_n 0, 1) := by decide +kernel
theorem dX8_reads_29 : decode cX8_reads 29 = .ok (.iload_n 1, 1) := by decide +kernel
theorem dX8_reads_30 : decode cX8_reads 30 = .ok (.aload_n 0, 1) := by decide +kernel
theorem dX8_reads_31 : decode cX8_reads 31 = .ok (.getfield 302, 3) := by decide +kernel
theorem dX8_reads_34 : decode cX8_reads 34 = .ok (.invokevirtual 50, 3) := by decide +kernel
theorem dX8_reads_37 : decode cX8_reads 37 = .ok (.aload_n 0, 1) := by decide +kernel
theorem dX8_reads_38 : decode cX8_reads 38 = .ok (.bipush 58, 2) := by decide +kernel
theorem dX8_reads_40 : decode cX8_reads 40 = .ok (.invokevirtual 315, 3) := by decide +kernel
theorem dX8_reads_43 : decode cX8_reads 43 = .ok (.ifCond .eq 10, 3) := by decide +kernel
theorem dX8_reads_46 : decode cX8_reads 46 = .ok (.aload_n 0, 1) := by decide +kernel
theorem dX8_reads_47 : decode cX8_reads 47 = .ok (.invokevirtual 321, 3) := by decide +kernel
theorem dX8_reads_50 : decode cX8_reads 50 = .ok (.ifCond .ne 5, 3) := by decide +kernel
theorem dX8_reads_53 : decode cX8_reads 53 = .ok (.iconst 0, 1) := by decide +kernel
theorem dX8_reads_54 : decode cX8_reads 54 = .ok (.ireturn, 1) := by decide +kernel
theorem dX8_reads_55 : decode cX8_reads 55 = .ok (.aload_n 0, 1) := by decide +kernel
theorem dX8_reads_56 : decode cX8_reads 56 = .ok (.getfield 291, 3) := by decide +kernel
theorem dX8_reads_59 : decode cX8_reads 59 = .ok (.aload_n 0, 1) := by decide +kernel
theorem dX8_reads_60 : decode cX8_reads 60 = .ok (.getfield 288, 3) := by decide +kernel
theorem dX8_reads_63 : decode cX8_reads 63 = .ok (.if_icmp .ge 61, 3) := by decide +kernel
theorem dX8_reads_66 : decode cX8_reads 66 = .ok (.aload_n 0, 1) := by decide +kernel
theorem dX8_reads_67 : decode cX8_reads 67 = .ok (.bipush 59, 2) := by decide +kernel
theorem dX8_reads_69 : decode cX8_reads 69 = .ok (.invokevirtual 315, 3) := by decide +kernel
theorem dX8_reads_72 : decode cX8_reads 72 = .ok (.ifCond .ne 5, 3) := by decide +kernel
theorem dX8_reads_75 : decode cX8_reads 75 = .ok (.iconst 0, 1) := by decide +kernel
theorem dX8_reads_76 : decode cX8_reads 76 = .ok (.ireturn, 1) := by decide +kernel
theorem dX8_reads_77 : decode cX8_reads 77 = .ok (.aload_n 0, 1) := by decide +kernel
theorem dX8_reads_78 : decode cX8_reads 78 = .ok (.bipush 100, 2) := by decide +kernel
theorem dX8_reads_80 : decode cX8_reads 80 = .ok (.invokevirtual 315, 3) := by decide +kernel
theorem dX8_reads_83 : decode cX8_reads 83 = .ok (.ifCond .eq 10, 3) := by decide +kernel
theorem dX8_reads_86 : decode cX8_reads 86 = .ok (.aload_n 0, 1) := by decide +kernel
theorem dX8_reads_87 : decode cX8_reads 87 = .ok (.invokevirtual 324, 3) := by decide +kernel
theorem dX8_reads_90 : decode cX8_reads 90 = .ok (.goto 24, 3) := by decide +kernel
theorem dX8_reads_93 : decode cX8_reads 93 = .ok (.aload_n 0, 1) := by decide +kernel
theorem dX8_reads_94 : decode cX8_reads 94 = .ok (.bipush 103, 2) := by decide +kernel
theorem dX8_reads_96 : decode cX8_reads 96 = .ok (.invokevirtual 315, 3) := by decide +kernel
theorem dX8_reads_99 : decode cX8_reads 99 = .ok (.ifCond .eq 14, 3) := by decide +kernel
theorem dX8_reads_102 : decode cX8_reads 102 = .ok (.aload_n 0, 1) := by decide +kernel
theorem dX8_reads_103 : decode cX8_reads 103 = .ok (.invokevirtual 327, 3) := by decide +kernel
theorem dX8_reads_106 : decode cX8_reads 106 = .ok (.ifCond .eq 7, 3) := by decide +kernel
theorem dX8_reads_109 : decode cX8_reads 109 = .ok (.iconst 1, 1) := by decide +kernel
theorem dX8_reads_110 : decode cX8_reads 110 = .ok (.goto 4, 3) := by decide +kernel
theorem dX8_reads_113 : decode cX8_reads 113 = .ok (.iconst 0, 1) := by decide +kernel
theorem dX8_reads_114 : decode cX8_reads 114 = .ok (.istore_n 2, 1) := by decide +kernel
theorem dX8_reads_115 : decode cX8_reads 115 = .ok (.iload_n 2, 1) := by decide +kernel
theorem dX8_reads_116 : decode cX8_reads 116 = .ok (.ifCond .ne 5, 3) := by decide +kernel
theorem dX8_reads_119 : decode cX8_reads 119 = .ok (.iconst 0, 1) := by decide +kernel
theorem dX8_reads_120 : decode cX8_reads 120 = .ok (.ireturn, 1) := by decide +kernel
theorem dX8_reads_121 : decode cX8_reads 121 = .ok (.goto (-66), 3) := by decide +kernel
theorem dX8_reads_124 : decode cX8_reads 124 = .ok (.iconst 1, 1) := by decide +kernel
theorem dX8_reads_125 : decode cX8_reads 125 = .ok (.ireturn, 1) := by decide +kernel
theorem dX8_parse_0 : decode cX8_parse 0 = .ok (.aload_n 0, 1) := by decide +kernel
theorem dX8_parse_1 : decode cX8_parse 1 = .ok (.iconst 0, 1) := by decide +kernel
theorem dX8_parse_2 : decode cX8_parse 2 = .ok (.putfield 54, 3) := by decide +kernel
theorem dX8_parse_5 : decode cX8_parse 5 = .ok (.aload_n 0, 1) := by decide +kernel
theorem dX8_parse_6 : decode cX8_parse 6 = .ok (.invokevirtual 272, 3) := by decide +kernel
theorem dX8_parse_9 : decode cX8_parse 9 = .ok (.aload_n 0, 1) := by decide +kernel
theorem dX8_parse_10 : decode cX8_parse 10 = .ok (.invokevirtual 330, 3) := by decide +kernel
theorem dX8_parse_13 : decode cX8_parse 13 = .ok (.istore_n 1, 1) := by decide +kernel
theorem dX8_parse_14 : decode cX8_parse 14 = .ok (.iload_n 1, 1) := by decide +kernel
theorem dX8_parse_15 : decode cX8_parse 15 = .ok (.ifCond .ne 15, 3) := by decide +kernel
theorem dX8_parse_18 : decode cX8_parse 18 = .ok (.aload_n 0, 1) := by decide +kernel
theorem dX8_parse_19 : decode cX8_parse 19 = .ok (.invokevirtual 275, 3) := by decide +kernel
theorem dX8_parse_22 : decode cX8_parse 22 = .ok (.bipush (-10), 2) := by decide +kernel
theorem dX8_parse_24 : decode cX8_parse 24 = .ok (.aload_n 0, 1) := by decide +kernel
theorem dX8_parse_25 : decode cX8_parse 25 = .ok (.getfield 291, 3) := by decide +kernel
theorem dX8_parse_28 : decode cX8_parse 28 = .ok (.isub, 1) := by decide +kernel
theorem dX8_parse_29 : decode cX8_parse 29 = .ok (.ireturn, 1) := by decide +kernel
theorem dX8_parse_30 : decode cX8_parse 30 = .ok (.aload_n 0, 1) := by decide +kernel
theorem dX8_parse_31 : decode cX8_parse 31 = .ok (.invokevirtual 174, 3) := by decide +kernel
theorem dX8_parse_34 : decode cX8_parse 34 = .ok (.iconst 0, 1) := by decide +kernel
theorem dX8_parse_35 : decode cX8_parse 35 = .ok (.istore_n 2, 1) := by decide +kernel
theorem dX8_parse_36 : decode cX8_parse 36 = .ok (.iload_n 2, 1) := by decide +kernel
theorem dX8_parse_37 : decode cX8_parse 37 = .ok (.sipush 513, 3) := by decide +kernel
theorem dX8_parse_40 : decode cX8_parse 40 = .ok (.if_icmp .ge 35, 3) := by decide +kernel
theorem dX8_parse_43 : decode cX8_parse 43 = .ok (.aload_n 0, 1) := by decide +kernel
theorem dX8_parse_44 : decode cX8_parse 44 = .ok (.getfield 7, 3) := by decide +kernel
theorem dX8_parse_47 : decode cX8_parse 47 = .ok (.iload_n 2, 1) := by decide +kernel
theorem dX8_parse_48 : decode cX8_parse 48 = .ok (.laload, 1) := by decide +kernel
theorem dX8_parse_49 : decode cX8_parse 49 = .ok (.lstore_n 3, 1) := by decide +kernel
theorem dX8_parse_50 : decode cX8_parse 50 = .ok (.aload_n 0, 1) := by decide +kernel
theorem dX8_parse_51 : decode cX8_parse 51 = .ok (.getfield 7, 3) := by decide +kernel
theorem dX8_parse_54 : decode cX8_parse 54 = .ok (.iload_n 2, 1) := by decide +kernel
theorem dX8_parse_55 : decode cX8_parse 55 = .ok (.aload_n 0, 1) := by decide +kernel
theorem dX8_parse_56 : decode cX8_parse 56 = .ok (.getfield 16, 3) := by decide +kernel
theorem dX8_parse_59 : decode cX8_parse 59 = .ok (.iload_n 2, 1) := by decide +kernel
theorem dX8_parse_60 : decode cX8_parse 60 = .ok (.laload, 1) := by decide +kernel
theorem dX8_parse_61 : decode cX8_parse 61 = .ok (.lastore, 1) := by decide +kernel
theorem dX8_parse_62 : decode cX8_parse 62 = .ok (.aload_n 0, 1) := by decide +kernel
theorem dX8_parse_63 : decode cX8_parse 63 = .ok (.getfield 16, 3) := by decide +kernel
theorem dX8_parse_66 : decode cX8_parse 66 = .ok (.iload_n 2, 1) := by decide +kernel
theorem dX8_parse_67 : decode cX8_parse 67 = .ok (.lload_n 3, 1) := by decide +kernel
theorem dX8_parse_68 : decode cX8_parse 68 = .ok (.lastore, 1) := by decide +kernel
theorem dX8_parse_69 : decode cX8_parse 69 = .ok (.iinc 2 1, 3) := by decide +kernel
theorem dX8_parse_72 : decode cX8_parse 72 = .ok (.goto (-36), 3) := by decide +kernel
theorem dX8_parse_75 : decode cX8_parse 75 = .ok (.aload_n 0, 1) := by decide +kernel
theorem dX8_parse_76 : decode cX8_parse 76 = .ok (.invokevirtual 187, 3) := by decide +kernel
theorem dX8_parse_79 : decode cX8_parse 79 = .ok (.aload_n 0, 1) := by decide +kernel
theorem dX8_parse_80 : decode cX8_parse 80 = .ok (.invokevirtual 275, 3) := by decide +kernel
theorem dX8_parse_83 : decode cX8_parse 83 = .ok (.aload_n 0, 1) := by decide +kernel
theorem dX8_parse_84 : decode cX8_parse 84 = .ok (.getfield 7, 3) := by decide +kernel
theorem dX8_parse_87 : decode cX8_parse 87 = .ok (.bipush 6, 2) := by decide +kernel
theorem dX8_parse_89 : decode cX8_parse 89 = .ok (.laload, 1) := by decide +kernel
theorem dX8_parse_90 : decode cX8_parse 90 = .ok (.l2i, 1) := by decide +kernel
theorem dX8_parse_91 : decode cX8_parse 91 = .ok (.ireturn, 1) := by decide +kernel
theorem dX8_undo_0 : decode cX8_undo 0 = .ok (.aload_n 0, 1) := by decide +kernel
theorem dX8_undo_1 : decode cX8_undo 1 = .ok (.aload_n 0, 1) := by decide +kernel
theorem dX8_undo_2 : decode cX8_undo 2 = .ok (.getfield 58, 3) := by decide +kernel
theorem dX8_undo_5 : decode cX8_undo 5 = .ok (.ifCond .le 7, 3) := by decide +kernel
theorem dX8_undo_8 : decode cX8_undo 8 = .ok (.iconst 1, 1) := by decide +kernel
theorem dX8_undo_9 : decode cX8_undo 9 = .ok (.goto 4, 3) := by decide +kernel
theorem dX8_undo_12 : decode cX8_undo 12 = .ok (.iconst 0, 1) := by decide +kernel
theorem dX8_undo_13 : decode cX8_undo 13 = .ok (.iconst 1, 1) := by decide +kernel
theorem dX8_undo_14 : decode cX8_undo 14 = .ok (.iconst 1, 1) := by decide +kernel
theorem dX8_undo_15 : decode cX8_undo 15 = .ok (.invokevirtual 183, 3) := by decide +kernel
theorem dX8_undo_18 : decode cX8_undo 18 = .ok (.ifCond .ne 5, 3) := by decide +kernel
theorem dX8_undo_21 : decode cX8_undo 21 = .ok (.iconst 0, 1) := by decide +kernel
theorem dX8_undo_22 : decode cX8_undo 22 = .ok (.ireturn, 1) := by decide +kernel
theorem dX8_undo_23 : decode cX8_undo 23 = .ok (.aload_n 0, 1) := by decide +kernel
theorem dX8_undo_24 : decode cX8_undo 24 = .ok (.dup, 1) := by decide +kernel
theorem dX8_undo_25 : decode cX8_undo 25 = .ok (.getfield 58, 3) := by decide +kernel
theorem dX8_undo_28 : decode cX8_undo 28 = .ok (.iconst 1, 1) := by decide +kernel
theorem dX8_undo_29 : decode cX8_undo 29 = .ok (.isub, 1) := by decide +kernel
theorem dX8_undo_30 : decode cX8_undo 30 = .ok (.putfield 58, 3) := by decide +kernel
theorem dX8_undo_33 : decode cX8_undo 33 = .ok (.iconst 0, 1) := by decide +kernel
theorem dX8_undo_34 : decode cX8_undo 34 = .ok (.istore_n 1, 1) := by decide +kernel
theorem dX8_undo_35 : decode cX8_undo 35 = .ok (.iload_n 1, 1) := by decide +kernel
theorem dX8_undo_36 : decode cX8_undo 36 = .ok (.sipush 513, 3) := by decide +kernel
theorem dX8_undo_39 : decode cX8_undo 39 = .ok (.if_icmp .ge 30, 3) := by decide +kernel
theorem dX8_undo_42 : decode cX8_undo 42 = .ok (.aload_n 0, 1) := by decide +kernel
theorem dX8_undo_43 : decode cX8_undo 43 = .ok (.getfield 7, 3) := by decide +kernel
theorem dX8_undo_46 : decode cX8_undo 46 = .ok (.iload_n 1, 1) := by decide +kernel
theorem dX8_undo_47 : decode cX8_undo 47 = .ok (.aload_n 0, 1) := by decide +kernel
theorem dX8_undo_48 : decode cX8_undo 48 = .ok (.getfield 13, 3) := by decide +kernel
theorem dX8_undo_51 : decode cX8_undo 51 = .ok (.sipush 513, 3) := by decide +kernel
theorem dX8_undo_54 : decode cX8_undo 54 = .ok (.aload_n 0, 1) := by decide +kernel
theorem dX8_undo_55 : decode cX8_undo 55 = .ok (.getfield 58, 3) := by decide +kernel
theorem dX8_undo_58 : decode cX8_undo 58 = .ok (.imul, 1) := by decide +kernel
theorem dX8_undo_59 : decode cX8_undo 59 = .ok (.iload_n 1, 1) := by decide +kernel
theorem dX8_undo_60 : decode cX8_undo 60 = .ok (.iadd, 1) := by decide +kernel
theorem dX8_undo_61 : decode cX8_undo 61 = .ok (.laload, 1) := by decide +kernel
theorem dX8_undo_62 : decode cX8_undo 62 = .ok (.lastore, 1) := by decide +kernel
theorem dX8_undo_63 : decode cX8_undo 63 = .ok (.iinc 1 1, 3) := by decide +kernel
theorem dX8_undo_66 : decode cX8_undo 66 = .ok (.goto (-31), 3) := by decide +kernel
theorem dX8_undo_69 : decode cX8_undo 69 = .ok (.aload_n 0, 1) := by decide +kernel
theorem dX8_undo_70 : decode cX8_undo 70 = .ok (.getfield 58, 3) := by decide +kernel
theorem dX8_undo_73 : decode cX8_undo 73 = .ok (.ireturn, 1) := by decide +kernel
theorem dX8_sums_0 : decode cX8_sums 0 = .ok (.ldc2_w 333, 3) := by decide +kernel
theorem dX8_sums_3 : decode cX8_sums 3 = .ok (.lload_n 0, 1) := by decide +kernel
theorem dX8_sums_4 : decode cX8_sums 4 = .ok (.lmul, 1) := by decide +kernel
theorem dX8_sums_5 : decode cX8_sums 5 = .ok (.lload_n 2, 1) := by decide +kernel
theorem dX8_sums_6 : decode cX8_sums 6 = .ok (.ladd, 1) := by decide +kernel
theorem dX8_sums_7 : decode cX8_sums 7 = .ok (.lreturn, 1) := by decide +kernel
theorem dX8_digest_0 : decode cX8_digest 0 = .ok (.aload_n 0, 1) := by decide +kernel
theorem dX8_digest_1 : decode cX8_digest 1 = .ok (.iconst 0, 1) := by decide +kernel
theorem dX8_digest_2 : decode cX8_digest 2 = .ok (.putfield 54, 3) := by decide +kernel
theorem dX8_digest_5 : decode cX8_digest 5 = .ok (.ldc2_w 335, 3) := by decide +kernel
theorem dX8_digest_8 : decode cX8_digest 8 = .ok (.aload_n 0, 1) := by decide +kernel
theorem dX8_digest_9 : decode cX8_digest 9 = .ok (.getfield 288, 3) := by decide +kernel
theorem dX8_digest_12 : decode cX8_digest 12 = .ok (.i2l, 1) := by decide +kernel
theorem dX8_digest_13 : decode cX8_digest 13 = .ok (.invokestatic 337, 3) := by decide +kernel
theorem dX8_digest_16 : decode cX8_digest 16 = .ok (.lstore_n 1, 1) := by decide +kernel
theorem dX8_digest_17 : decode cX8_digest 17 = .ok (.iconst 0, 1) := by decide +kernel
theorem dX8_digest_18 : decode cX8_digest 18 = .ok (.istore_n 3, 1) := by decide +kernel
theorem dX8_digest_19 : decode cX8_digest 19 = .ok (.iload_n 3, 1) := by decide +kernel
theorem dX8_digest_20 : decode cX8_digest 20 = .ok (.bipush 7, 2) := by decide +kernel
theorem dX8_digest_22 : decode cX8_digest 22 = .ok (.if_icmp .ge 20, 3) := by decide +kernel
theorem dX8_digest_25 : decode cX8_digest 25 = .ok (.lload_n 1, 1) := by decide +kernel
theorem dX8_digest_26 : decode cX8_digest 26 = .ok (.aload_n 0, 1) := by decide +kernel
theorem dX8_digest_27 : decode cX8_digest 27 = .ok (.iload_n 3, 1) := by decide +kernel
theorem dX8_digest_28 : decode cX8_digest 28 = .ok (.invokevirtual 225, 3) := by decide +kernel
theorem dX8_digest_31 : decode cX8_digest 31 = .ok (.i2l, 1) := by decide +kernel
theorem dX8_digest_32 : decode cX8_digest 32 = .ok (.invokestatic 337, 3) := by decide +kernel
theorem dX8_digest_35 : decode cX8_digest 35 = .ok (.lstore_n 1, 1) := by decide +kernel
theorem dX8_digest_36 : decode cX8_digest 36 = .ok (.iinc 3 1, 3) := by decide +kernel
theorem dX8_digest_39 : decode cX8_digest 39 = .ok (.goto (-20), 3) := by decide +kernel
theorem dX8_digest_42 : decode cX8_digest 42 = .ok (.iconst 0, 1) := by decide +kernel
theorem dX8_digest_43 : decode cX8_digest 43 = .ok (.istore_n 3, 1) := by decide +kernel
theorem dX8_digest_44 : decode cX8_digest 44 = .ok (.iload_n 3, 1) := by decide +kernel
theorem dX8_digest_45 : decode cX8_digest 45 = .ok (.aload_n 0, 1) := by decide +kernel
theorem dX8_digest_46 : decode cX8_digest 46 = .ok (.invokevirtual 61, 3) := by decide +kernel
theorem dX8_digest_49 : decode cX8_digest 49 = .ok (.if_icmp .ge 38, 3) := by decide +kernel
theorem dX8_digest_52 : decode cX8_digest 52 = .ok (.iconst 0, 1) := by decide +kernel
theorem dX8_digest_53 : decode cX8_digest 53 = .ok (.istore 4, 2) := by decide +kernel
theorem dX8_digest_55 : decode cX8_digest 55 = .ok (.iload 4, 2) := by decide +kernel
theorem dX8_digest_57 : decode cX8_digest 57 = .ok (.bipush 6, 2) := by decide +kernel
theorem dX8_digest_59 : decode cX8_digest 59 = .ok (.if_icmp .ge 22, 3) := by decide +kernel
theorem dX8_digest_62 : decode cX8_digest 62 = .ok (.lload_n 1, 1) := by decide +kernel
theorem dX8_digest_63 : decode cX8_digest 63 = .ok (.aload_n 0, 1) := by decide +kernel
theorem dX8_digest_64 : decode cX8_digest 64 = .ok (.iload_n 3, 1) := by decide +kernel
theorem dX8_digest_65 : decode cX8_digest 65 = .ok (.iload 4, 2) := by decide +kernel
theorem dX8_digest_67 : decode cX8_digest 67 = .ok (.invokevirtual 216, 3) := by decide +kernel
theorem dX8_digest_70 : decode cX8_digest 70 = .ok (.i2l, 1) := by decide +kernel
theorem dX8_digest_71 : decode cX8_digest 71 = .ok (.invokestatic 337, 3) := by decide +kernel
theorem dX8_digest_74 : decode cX8_digest 74 = .ok (.lstore_n 1, 1) := by decide +kernel
theorem dX8_digest_75 : decode cX8_digest 75 = .ok (.iinc 4 1, 3) := by decide +kernel
theorem dX8_digest_78 : decode cX8_digest 78 = .ok (.goto (-23), 3) := by decide +kernel
theorem dX8_digest_81 : decode cX8_digest 81 = .ok (.iinc 3 1, 3) := by decide +kernel
theorem dX8_digest_84 : decode cX8_digest 84 = .ok (.goto (-40), 3) := by decide +kernel
theorem dX8_digest_87 : decode cX8_digest 87 = .ok (.aload_n 0, 1) := by decide +kernel
theorem dX8_digest_88 : decode cX8_digest 88 = .ok (.invokevirtual 152, 3) := by decide +kernel
theorem dX8_digest_91 : decode cX8_digest 91 = .ok (.aload_n 0, 1) := by decide +kernel
theorem dX8_digest_92 : decode cX8_digest 92 = .ok (.getfield 149, 3) := by decide +kernel
theorem dX8_digest_95 : decode cX8_digest 95 = .ok (.istore_n 3, 1) := by decide +kernel
theorem dX8_digest_96 : decode cX8_digest 96 = .ok (.iconst 0, 1) := by decide +kernel
theorem dX8_digest_97 : decode cX8_digest 97 = .ok (.istore 4, 2) := by decide +kernel
theorem dX8_digest_99 : decode cX8_digest 99 = .ok (.iload 4, 2) := by decide +kernel
theorem dX8_digest_101 : decode cX8_digest 101 = .ok (.iload_n 3, 1) := by decide +kernel
theorem dX8_digest_102 : decode cX8_digest 102 = .ok (.if_icmp .ge 84, 3) := by decide +kernel
theorem dX8_digest_105 : decode cX8_digest 105 = .ok (.iconst 0, 1) := by decide +kernel
theorem dX8_digest_106 : decode cX8_digest 106 = .ok (.istore 5, 2) := by decide +kernel
theorem dX8_digest_108 : decode cX8_digest 108 = .ok (.iload 5, 2) := by decide +kernel
theorem dX8_digest_110 : decode cX8_digest 110 = .ok (.bipush 10, 2) := by decide +kernel
theorem dX8_digest_112 : decode cX8_digest 112 = .ok (.if_icmp .ge 23, 3) := by decide +kernel
theorem dX8_digest_115 : decode cX8_digest 115 = .ok (.lload_n 1, 1) := by decide +kernel
theorem dX8_digest_116 : decode cX8_digest 116 = .ok (.aload_n 0, 1) := by decide +kernel
theorem dX8_digest_117 : decode cX8_digest 117 = .ok (.iload 4, 2) := by decide +kernel
theorem dX8_digest_119 : decode cX8_digest 119 = .ok (.iload 5, 2) := by decide +kernel
theorem dX8_digest_121 : decode cX8_digest 121 = .ok (.invokevirtual 262, 3) := by decide +kernel
theorem dX8_digest_124 : decode cX8_digest 124 = .ok (.i2l, 1) := by decide +kernel
theorem dX8_digest_125 : decode cX8_digest 125 = .ok (.invokestatic 337, 3) := by decide +kernel
theorem dX8_digest_128 : decode cX8_digest 128 = .ok (.lstore_n 1, 1) := by decide +kernel
theorem dX8_digest_129 : decode cX8_digest 129 = .ok (.iinc 5 1, 3) := by decide +kernel
theorem dX8_digest_132 : decode cX8_digest 132 = .ok (.goto (-24), 3) := by decide +kernel
theorem dX8_digest_135 : decode cX8_digest 135 = .ok (.lload_n 1, 1) := by decide +kernel
theorem dX8_digest_136 : decode cX8_digest 136 = .ok (.aload_n 0, 1) := by decide +kernel
theorem dX8_digest_137 : decode cX8_digest 137 = .ok (.getfield 7, 3) := by decide +kernel
theorem dX8_digest_140 : decode cX8_digest 140 = .ok (.sipush 152, 3) := by decide +kernel
theorem dX8_digest_143 : decode cX8_digest 143 = .ok (.aload_n 0, 1) := by decide +kernel
theorem dX8_digest_144 : decode cX8_digest 144 = .ok (.getfield 29, 3) := by decide +kernel
theorem dX8_digest_147 : decode cX8_digest 147 = .ok (.iload 4, 2) := by decide +kernel
theorem dX8_digest_149 : decode cX8_digest 149 = .ok (.iaload, 1) := by decide +kernel
theorem dX8_digest_150 : decode cX8_digest 150 = .ok (.iadd, 1) := by decide +kernel
theorem dX8_digest_151 : decode cX8_digest 151 = .ok (.laload, 1) := by decide +kernel
theorem dX8_digest_152 : decode cX8_digest 152 = .ok (.invokestatic 337, 3) := by decide +kernel
theorem dX8_digest_155 : decode cX8_digest 155 = .ok (.lstore_n 1, 1) := by decide +kernel
theorem dX8_digest_156 : decode cX8_digest 156 = .ok (.lload_n 1, 1) := by decide +kernel
theorem dX8_digest_157 : decode cX8_digest 157 = .ok (.aload_n 0, 1) := by decide +kernel
theorem dX8_digest_158 : decode cX8_digest 158 = .ok (.iload 4, 2) := by decide +kernel
theorem dX8_digest_160 : decode cX8_digest 160 = .ok (.iconst 0, 1) := by decide +kernel
theorem dX8_digest_161 : decode cX8_digest 161 = .ok (.invokevirtual 269, 3) := by decide +kernel
theorem dX8_digest_164 : decode cX8_digest 164 = .ok (.i2l, 1) := by decide +kernel
theorem dX8_digest_165 : decode cX8_digest 165 = .ok (.invokestatic 337, 3) := by decide +kernel
theorem dX8_digest_168 : decode cX8_digest 168 = .ok (.aload_n 0, 1) := by decide +kernel
theorem dX8_digest_169 : decode cX8_digest 169 = .ok (.iload 4, 2) := by decide +kernel
theorem dX8_digest_171 : decode cX8_digest 171 = .ok (.iconst 1, 1) := by decide +kernel
theorem dX8_digest_172 : decode cX8_digest 172 = .ok (.invokevirtual 269, 3) := by decide +kernel
theorem dX8_digest_175 : decode cX8_digest 175 = .ok (.i2l, 1) := by decide +kernel
theorem dX8_digest_176 : decode cX8_digest 176 = .ok (.invokestatic 337, 3) := by decide +kernel
theorem dX8_digest_179 : decode cX8_digest 179 = .ok (.lstore_n 1, 1) := by decide +kernel
theorem dX8_digest_180 : decode cX8_digest 180 = .ok (.iinc 4 1, 3) := by decide +kernel
theorem dX8_digest_183 : decode cX8_digest 183 = .ok (.goto (-84), 3) := by decide +kernel
theorem dX8_digest_186 : decode cX8_digest 186 = .ok (.iconst 0, 1) := by decide +kernel
theorem dX8_digest_187 : decode cX8_digest 187 = .ok (.istore 4, 2) := by decide +kernel
theorem dX8_digest_189 : decode cX8_digest 189 = .ok (.iload 4, 2) := by decide +kernel
theorem dX8_digest_191 : decode cX8_digest 191 = .ok (.iconst 4, 1) := by decide +kernel
theorem dX8_digest_192 : decode cX8_digest 192 = .ok (.if_icmp .ge 20, 3) := by decide +kernel
theorem dX8_digest_195 : decode cX8_digest 195 = .ok (.lload_n 1, 1) := by decide +kernel
theorem dX8_digest_196 : decode cX8_digest 196 = .ok (.aload_n 0, 1) := by decide +kernel
theorem dX8_digest_197 : decode cX8_digest 197 = .ok (.iload 4, 2) := by decide +kernel
theorem dX8_digest_199 : decode cX8_digest 199 = .ok (.invokevirtual 251, 3) := by decide +kernel
theorem dX8_digest_202 : decode cX8_digest 202 = .ok (.invokestatic 337, 3) := by decide +kernel
theorem dX8_digest_205 : decode cX8_digest 205 = .ok (.lstore_n 1, 1) := by decide +kernel
theorem dX8_digest_206 : decode cX8_digest 206 = .ok (.iinc 4 1, 3) := by decide +kernel
theorem dX8_digest_209 : decode cX8_digest 209 = .ok (.goto (-20), 3) := by decide +kernel
theorem dX8_digest_212 : decode cX8_digest 212 = .ok (.lload_n 1, 1) := by decide +kernel
theorem dX8_digest_213 : decode cX8_digest 213 = .ok (.aload_n 0, 1) := by decide +kernel
theorem dX8_digest_214 : decode cX8_digest 214 = .ok (.getfield 58, 3) := by decide +kernel
theorem dX8_digest_217 : decode cX8_digest 217 = .ok (.i2l, 1) := by decide +kernel
theorem dX8_digest_218 : decode cX8_digest 218 = .ok (.invokestatic 337, 3) := by decide +kernel
theorem dX8_digest_221 : decode cX8_digest 221 = .ok (.lreturn, 1) := by decide +kernel
