theorem dX6_init_0 : decode cX6_init 0 = .ok (.aload_n 0, 1) := by decide +kernel
theorem dX6_init_1 : decode cX6_init 1 = .ok (.invokespecial 3, 3) := by decide +kernel
theorem dX6_init_4 : decode cX6_init 4 = .ok (.aload_n 0, 1) := by decide +kernel
theorem dX6_init_5 : decode cX6_init 5 = .ok (.new 9, 3) := by decide +kernel
theorem dX6_init_8 : decode cX6_init 8 = .ok (.dup, 1) := by decide +kernel
theorem dX6_init_9 : decode cX6_init 9 = .ok (.invokespecial 11, 3) := by decide +kernel
theorem dX6_init_12 : decode cX6_init 12 = .ok (.putfield 12, 3) := by decide +kernel
theorem dX6_init_15 : decode cX6_init 15 = .ok (.aload_n 0, 1) := by decide +kernel
theorem dX6_init_16 : decode cX6_init 16 = .ok (.new 18, 3) := by decide +kernel
theorem dX6_init_19 : decode cX6_init 19 = .ok (.dup, 1) := by decide +kernel
theorem dX6_init_20 : decode cX6_init 20 = .ok (.invokespecial 20, 3) := by decide +kernel
theorem dX6_init_23 : decode cX6_init 23 = .ok (.putfield 21, 3) := by decide +kernel
theorem dX6_init_26 : decode cX6_init 26 = .ok (.aload_n 0, 1) := by decide +kernel
theorem dX6_init_27 : decode cX6_init 27 = .ok (.new 25, 3) := by decide +kernel
theorem dX6_init_30 : decode cX6_init 30 = .ok (.dup, 1) := by decide +kernel
theorem dX6_init_31 : decode cX6_init 31 = .ok (.invokespecial 27, 3) := by decide +kernel
theorem dX6_init_34 : decode cX6_init 34 = .ok (.putfield 28, 3) := by decide +kernel
theorem dX6_init_37 : decode cX6_init 37 = .ok (.aload_n 0, 1) := by decide +kernel
theorem dX6_init_38 : decode cX6_init 38 = .ok (.new 32, 3) := by decide +kernel
theorem dX6_init_41 : decode cX6_init 41 = .ok (.dup, 1) := by decide +kernel
theorem dX6_init_42 : decode cX6_init 42 = .ok (.bipush 36, 2) := by decide +kernel
theorem dX6_init_44 : decode cX6_init 44 = .ok (.invokespecial 34, 3) := by decide +kernel
theorem dX6_init_47 : decode cX6_init 47 = .ok (.putfield 37, 3) := by decide +kernel
theorem dX6_init_50 : decode cX6_init 50 = .ok (.aload_n 0, 1) := by decide +kernel
theorem dX6_init_51 : decode cX6_init 51 = .ok (.new 32, 3) := by decide +kernel
theorem dX6_init_54 : decode cX6_init 54 = .ok (.dup, 1) := by decide +kernel
theorem dX6_init_55 : decode cX6_init 55 = .ok (.bipush 36, 2) := by decide +kernel
theorem dX6_init_57 : decode cX6_init 57 = .ok (.invokespecial 34, 3) := by decide +kernel
theorem dX6_init_60 : decode cX6_init 60 = .ok (.putfield 41, 3) := by decide +kernel
theorem dX6_init_63 : decode cX6_init 63 = .ok (.return_, 1) := by decide +kernel
theorem dX6_copyFrom_0 : decode cX6_copyFrom 0 = .ok (.aload_n 0, 1) := by decide +kernel
theorem dX6_copyFrom_1 : decode cX6_copyFrom 1 = .ok (.getfield 12, 3) := by decide +kernel
theorem dX6_copyFrom_4 : decode cX6_copyFrom 4 = .ok (.aload_n 1, 1) := by decide +kernel
theorem dX6_copyFrom_5 : decode cX6_copyFrom 5 = .ok (.getfield 12, 3) := by decide +kernel
theorem dX6_copyFrom_8 : decode cX6_copyFrom 8 = .ok (.invokevirtual 44, 3) := by decide +kernel
theorem dX6_copyFrom_11 : decode cX6_copyFrom 11 = .ok (.aload_n 0, 1) := by decide +kernel
theorem dX6_copyFrom_12 : decode cX6_copyFrom 12 = .ok (.getfield 21, 3) := by decide +kernel
theorem dX6_copyFrom_15 : decode cX6_copyFrom 15 = .ok (.aload_n 1, 1) := by decide +kernel
theorem dX6_copyFrom_16 : decode cX6_copyFrom 16 = .ok (.getfield 21, 3) := by decide +kernel
theorem dX6_copyFrom_19 : decode cX6_copyFrom 19 = .ok (.invokevirtual 48, 3) := by decide +kernel
theorem dX6_copyFrom_22 : decode cX6_copyFrom 22 = .ok (.aload_n 0, 1) := by decide +kernel
theorem dX6_copyFrom_23 : decode cX6_copyFrom 23 = .ok (.getfield 28, 3) := by decide +kernel
theorem dX6_copyFrom_26 : decode cX6_copyFrom 26 = .ok (.aload_n 1, 1) := by decide +kernel
theorem dX6_copyFrom_27 : decode cX6_copyFrom 27 = .ok (.getfield 28, 3) := by decide +kernel
theorem dX6_copyFrom_30 : decode cX6_copyFrom 30 = .ok (.invokevirtual 51, 3) := by decide +kernel
theorem dX6_copyFrom_33 : decode cX6_copyFrom 33 = .ok (.aload_n 0, 1) := by decide +kernel
theorem dX6_copyFrom_34 : decode cX6_copyFrom 34 = .ok (.aload_n 1, 1) := by decide +kernel
theorem dX6_copyFrom_35 : decode cX6_copyFrom 35 = .ok (.getfield 54, 3) := by decide +kernel
theorem dX6_copyFrom_38 : decode cX6_copyFrom 38 = .ok (.putfield 54, 3) := by decide +kernel
theorem dX6_copyFrom_41 : decode cX6_copyFrom 41 = .ok (.aload_n 0, 1) := by decide +kernel
theorem dX6_copyFrom_42 : decode cX6_copyFrom 42 = .ok (.aload_n 1, 1) := by decide +kernel
theorem dX6_copyFrom_43 : decode cX6_copyFrom 43 = .ok (.getfield 58, 3) := by decide +kernel
theorem dX6_copyFrom_46 : decode cX6_copyFrom 46 = .ok (.putfield 58, 3) := by decide +kernel
theorem dX6_copyFrom_49 : decode cX6_copyFrom 49 = .ok (.aload_n 0, 1) := by decide +kernel
theorem dX6_copyFrom_50 : decode cX6_copyFrom 50 = .ok (.aload_n 1, 1) := by decide +kernel
theorem dX6_copyFrom_51 : decode cX6_copyFrom 51 = .ok (.getfield 61, 3) := by decide +kernel
theorem dX6_copyFrom_54 : decode cX6_copyFrom 54 = .ok (.putfield 61, 3) := by decide +kernel
theorem dX6_copyFrom_57 : decode cX6_copyFrom 57 = .ok (.return_, 1) := by decide +kernel
theorem dX6_restart_0 : decode cX6_restart 0 = .ok (.aload_n 0, 1) := by decide +kernel
theorem dX6_restart_1 : decode cX6_restart 1 = .ok (.lconst 0, 1) := by decide +kernel
theorem dX6_restart_2 : decode cX6_restart 2 = .ok (.putfield 54, 3) := by decide +kernel
theorem dX6_restart_5 : decode cX6_restart 5 = .ok (.aload_n 0, 1) := by decide +kernel
theorem dX6_restart_6 : decode cX6_restart 6 = .ok (.lconst 0, 1) := by decide +kernel
theorem dX6_restart_7 : decode cX6_restart 7 = .ok (.putfield 58, 3) := by decide +kernel
theorem dX6_restart_10 : decode cX6_restart 10 = .ok (.aload_n 0, 1) := by decide +kernel
theorem dX6_restart_11 : decode cX6_restart 11 = .ok (.lconst 0, 1) := by decide +kernel
theorem dX6_restart_12 : decode cX6_restart 12 = .ok (.putfield 61, 3) := by decide +kernel
theorem dX6_restart_15 : decode cX6_restart 15 = .ok (.aload_n 0, 1) := by decide +kernel
theorem dX6_restart_16 : decode cX6_restart 16 = .ok (.invokevirtual 64, 3) := by decide +kernel
theorem dX6_restart_19 : decode cX6_restart 19 = .ok (.return_, 1) := by decide +kernel
theorem dX6_findAnew_0 : decode cX6_findAnew 0 = .ok (.aload_n 0, 1) := by decide +kernel
theorem dX6_findAnew_1 : decode cX6_findAnew 1 = .ok (.getfield 12, 3) := by decide +kernel
theorem dX6_findAnew_4 : decode cX6_findAnew 4 = .ok (.invokevirtual 67, 3) := by decide +kernel
theorem dX6_findAnew_7 : decode cX6_findAnew 7 = .ok (.aload_n 0, 1) := by decide +kernel
theorem dX6_findAnew_8 : decode cX6_findAnew 8 = .ok (.getfield 21, 3) := by decide +kernel
theorem dX6_findAnew_11 : decode cX6_findAnew 11 = .ok (.aload_n 0, 1) := by decide +kernel
theorem dX6_findAnew_12 : decode cX6_findAnew 12 = .ok (.getfield 12, 3) := by decide +kernel
theorem dX6_findAnew_15 : decode cX6_findAnew 15 = .ok (.invokevirtual 70, 3) := by decide +kernel
theorem dX6_findAnew_18 : decode cX6_findAnew 18 = .ok (.aload_n 0, 1) := by decide +kernel
theorem dX6_findAnew_19 : decode cX6_findAnew 19 = .ok (.getfield 28, 3) := by decide +kernel
theorem dX6_findAnew_22 : decode cX6_findAnew 22 = .ok (.aload_n 0, 1) := by decide +kernel
theorem dX6_findAnew_23 : decode cX6_findAnew 23 = .ok (.getfield 12, 3) := by decide +kernel
theorem dX6_findAnew_26 : decode cX6_findAnew 26 = .ok (.aload_n 0, 1) := by decide +kernel
theorem dX6_findAnew_27 : decode cX6_findAnew 27 = .ok (.getfield 21, 3) := by decide +kernel
theorem dX6_findAnew_30 : decode cX6_findAnew 30 = .ok (.invokevirtual 73, 3) := by decide +kernel
theorem dX6_findAnew_33 : decode cX6_findAnew 33 = .ok (.return_, 1) := by decide +kernel
theorem dX6_noteLakes_0 : decode cX6_noteLakes 0 = .ok (.aload_n 0, 1) := by decide +kernel
theorem dX6_noteLakes_1 : decode cX6_noteLakes 1 = .ok (.aload_n 0, 1) := by decide +kernel
theorem dX6_noteLakes_2 : decode cX6_noteLakes 2 = .ok (.getfield 28, 3) := by decide +kernel
theorem dX6_noteLakes_5 : decode cX6_noteLakes 5 = .ok (.invokevirtual 77, 3) := by decide +kernel
theorem dX6_noteLakes_8 : decode cX6_noteLakes 8 = .ok (.putfield 81, 3) := by decide +kernel
theorem dX6_noteLakes_11 : decode cX6_noteLakes 11 = .ok (.iconst 0, 1) := by decide +kernel
theorem dX6_noteLakes_12 : decode cX6_noteLakes 12 = .ok (.istore_n 1, 1) := by decide +kernel
theorem dX6_noteLakes_13 : decode cX6_noteLakes 13 = .ok (.iload_n 1, 1) := by decide +kernel
theorem dX6_noteLakes_14 : decode cX6_noteLakes 14 = .ok (.aload_n 0, 1) := by decide +kernel
theorem dX6_noteLakes_15 : decode cX6_noteLakes 15 = .ok (.getfield 81, 3) := by decide +kernel
theorem dX6_noteLakes_18 : decode cX6_noteLakes 18 = .ok (.if_icmp .ge 57, 3) := by decide +kernel
theorem dX6_noteLakes_21 : decode cX6_noteLakes 21 = .ok (.aload_n 0, 1) := by decide +kernel
theorem dX6_noteLakes_22 : decode cX6_noteLakes 22 = .ok (.getfield 28, 3) := by decide +kernel
theorem dX6_noteLakes_25 : decode cX6_noteLakes 25 = .ok (.iload_n 1, 1) := by decide +kernel
theorem dX6_noteLakes_26 : decode cX6_noteLakes 26 = .ok (.invokevirtual 85, 3) := by decide +kernel
theorem dX6_noteLakes_29 : decode cX6_noteLakes 29 = .ok (.istore_n 2, 1) := by decide +kernel
theorem dX6_noteLakes_30 : decode cX6_noteLakes 30 = .ok (.aload_n 0, 1) := by decide +kernel
theorem dX6_noteLakes_31 : decode cX6_noteLakes 31 = .ok (.getfield 37, 3) := by decide +kernel
theorem dX6_noteLakes_34 : decode cX6_noteLakes 34 = .ok (.iload_n 1, 1) := by decide +kernel
theorem dX6_noteLakes_35 : decode cX6_noteLakes 35 = .ok (.aload_n 0, 1) := by decide +kernel
theorem dX6_noteLakes_36 : decode cX6_noteLakes 36 = .ok (.getfield 28, 3) := by decide +kernel
theorem dX6_noteLakes_39 : decode cX6_noteLakes 39 = .ok (.aload_n 0, 1) := by decide +kernel
theorem dX6_noteLakes_40 : decode cX6_noteLakes 40 = .ok (.getfield 12, 3) := by decide +kernel
theorem dX6_noteLakes_43 : decode cX6_noteLakes 43 = .ok (.iload_n 2, 1) := by decide +kernel
theorem dX6_noteLakes_44 : decode cX6_noteLakes 44 = .ok (.invokevirtual 89, 3) := by decide +kernel
theorem dX6_noteLakes_47 : decode cX6_noteLakes 47 = .ok (.invokevirtual 93, 3) := by decide +kernel
theorem dX6_noteLakes_50 : decode cX6_noteLakes 50 = .ok (.aload_n 0, 1) := by decide +kernel
theorem dX6_noteLakes_51 : decode cX6_noteLakes 51 = .ok (.getfield 41, 3) := by decide +kernel
theorem dX6_noteLakes_54 : decode cX6_noteLakes 54 = .ok (.iload_n 1, 1) := by decide +kernel
theorem dX6_noteLakes_55 : decode cX6_noteLakes 55 = .ok (.aload_n 0, 1) := by decide +kernel
theorem dX6_noteLakes_56 : decode cX6_noteLakes 56 = .ok (.getfield 28, 3) := by decide +kernel
theorem dX6_noteLakes_59 : decode cX6_noteLakes 59 = .ok (.getfield 97, 3) := by decide +kernel
theorem dX6_noteLakes_62 : decode cX6_noteLakes 62 = .ok (.iload_n 2, 1) := by decide +kernel
theorem dX6_noteLakes_63 : decode cX6_noteLakes 63 = .ok (.invokevirtual 100, 3) := by decide +kernel
theorem dX6_noteLakes_66 : decode cX6_noteLakes 66 = .ok (.invokevirtual 93, 3) := by decide +kernel
theorem dX6_noteLakes_69 : decode cX6_noteLakes 69 = .ok (.iinc 1 1, 3) := by decide +kernel
theorem dX6_noteLakes_72 : decode cX6_noteLakes 72 = .ok (.goto (-59), 3) := by decide +kernel
theorem dX6_noteLakes_75 : decode cX6_noteLakes 75 = .ok (.return_, 1) := by decide +kernel
theorem dX6_renew_0 : decode cX6_renew 0 = .ok (.aload_n 0, 1) := by decide +kernel
theorem dX6_renew_1 : decode cX6_renew 1 = .ok (.invokevirtual 64, 3) := by decide +kernel
theorem dX6_renew_4 : decode cX6_renew 4 = .ok (.iconst 0, 1) := by decide +kernel
theorem dX6_renew_5 : decode cX6_renew 5 = .ok (.istore_n 1, 1) := by decide +kernel
theorem dX6_renew_6 : decode cX6_renew 6 = .ok (.iload_n 1, 1) := by decide +kernel
theorem dX6_renew_7 : decode cX6_renew 7 = .ok (.aload_n 0, 1) := by decide +kernel
theorem dX6_renew_8 : decode cX6_renew 8 = .ok (.getfield 81, 3) := by decide +kernel
theorem dX6_renew_11 : decode cX6_renew 11 = .ok (.if_icmp .ge 30, 3) := by decide +kernel
theorem dX6_renew_14 : decode cX6_renew 14 = .ok (.aload_n 0, 1) := by decide +kernel
theorem dX6_renew_15 : decode cX6_renew 15 = .ok (.aload_n 0, 1) := by decide +kernel
theorem dX6_renew_16 : decode cX6_renew 16 = .ok (.getfield 37, 3) := by decide +kernel
theorem dX6_renew_19 : decode cX6_renew 19 = .ok (.iload_n 1, 1) := by decide +kernel
theorem dX6_renew_20 : decode cX6_renew 20 = .ok (.invokevirtual 100, 3) := by decide +kernel
theorem dX6_renew_23 : decode cX6_renew 23 = .ok (.aload_n 0, 1) := by decide +kernel
theorem dX6_renew_24 : decode cX6_renew 24 = .ok (.getfield 41, 3) := by decide +kernel
theorem dX6_renew_27 : decode cX6_renew 27 = .ok (.iload_n 1, 1) := by decide +kernel
theorem dX6_renew_28 : decode cX6_renew 28 = .ok (.invokevirtual 100, 3) := by decide +kernel
theorem dX6_renew_31 : decode cX6_renew 31 = .ok (.invokevirtual 103, 3) := by decide +kernel
theorem dX6_renew_34 : decode cX6_renew 34 = .ok (.pop, 1) := by decide +kernel
theorem dX6_renew_35 : decode cX6_renew 35 = .ok (.iinc 1 1, 3) := by decide +kernel
theorem dX6_renew_38 : decode cX6_renew 38 = .ok (.goto (-32), 3) := by decide +kernel
theorem dX6_renew_41 : decode cX6_renew 41 = .ok (.return_, 1) := by decide +kernel
theorem dX6_pourAt_0 : decode cX6_pourAt 0 = .ok (.aload_n 0, 1) := by decide +kernel
theorem dX6_pourAt_1 : decode cX6_pourAt 1 = .ok (.getfield 28, 3) := by decide +kernel
theorem dX6_pourAt_4 : decode cX6_pourAt 4 = .ok (.getfield 107, 3) := by decide +kernel
theorem dX6_pourAt_7 : decode cX6_pourAt 7 = .ok (.iload_n 1, 1) := by decide +kernel
theorem dX6_pourAt_8 : decode cX6_pourAt 8 = .ok (.invokevirtual 100, 3) := by decide +kernel
theorem dX6_pourAt_11 : decode cX6_pourAt 11 = .ok (.istore_n 3, 1) := by decide +kernel
theorem dX6_pourAt_12 : decode cX6_pourAt 12 = .ok (.iload_n 3, 1) := by decide +kernel
theorem dX6_pourAt_13 : decode cX6_pourAt 13 = .ok (.iconst (-1), 1) := by decide +kernel
theorem dX6_pourAt_14 : decode cX6_pourAt 14 = .ok (.if_icmp .ne 7, 3) := by decide +kernel
theorem dX6_pourAt_17 : decode cX6_pourAt 17 = .ok (.iload_n 2, 1) := by decide +kernel
theorem dX6_pourAt_18 : decode cX6_pourAt 18 = .ok (.goto 16, 3) := by decide +kernel
theorem dX6_pourAt_21 : decode cX6_pourAt 21 = .ok (.aload_n 0, 1) := by decide +kernel
theorem dX6_pourAt_22 : decode cX6_pourAt 22 = .ok (.getfield 28, 3) := by decide +kernel
theorem dX6_pourAt_25 : decode cX6_pourAt 25 = .ok (.aload_n 0, 1) := by decide +kernel
theorem dX6_pourAt_26 : decode cX6_pourAt 26 = .ok (.getfield 12, 3) := by decide +kernel
theorem dX6_pourAt_29 : decode cX6_pourAt 29 = .ok (.iload_n 3, 1) := by decide +kernel
theorem dX6_pourAt_30 : decode cX6_pourAt 30 = .ok (.iload_n 2, 1) := by decide +kernel
theorem dX6_pourAt_31 : decode cX6_pourAt 31 = .ok (.invokevirtual 110, 3) := by decide +kernel
theorem dX6_pourAt_34 : decode cX6_pourAt 34 = .ok (.istore 4, 2) := by decide +kernel
theorem dX6_pourAt_36 : decode cX6_pourAt 36 = .ok (.aload_n 0, 1) := by decide +kernel
theorem dX6_pourAt_37 : decode cX6_pourAt 37 = .ok (.dup, 1) := by decide +kernel
theorem dX6_pourAt_38 : decode cX6_pourAt 38 = .ok (.getfield 58, 3) := by decide +kernel
theorem dX6_pourAt_41 : decode cX6_pourAt 41 = .ok (.iload 4, 2) := by decide +kernel
theorem dX6_pourAt_43 : decode cX6_pourAt 43 = .ok (.i2l, 1) := by decide +kernel
theorem dX6_pourAt_44 : decode cX6_pourAt 44 = .ok (.ladd, 1) := by decide +kernel
theorem dX6_pourAt_45 : decode cX6_pourAt 45 = .ok (.putfield 58, 3) := by decide +kernel
theorem dX6_pourAt_48 : decode cX6_pourAt 48 = .ok (.iload 4, 2) := by decide +kernel
theorem dX6_pourAt_50 : decode cX6_pourAt 50 = .ok (.ireturn, 1) := by decide +kernel
theorem dX6_dry_0 : decode cX6_dry 0 = .ok (.iconst 0, 1) := by decide +kernel
theorem dX6_dry_1 : decode cX6_dry 1 = .ok (.istore_n 2, 1) := by decide +kernel
theorem dX6_dry_2 : decode cX6_dry 2 = .ok (.iconst 0, 1) := by decide +kernel
theorem dX6_dry_3 : decode cX6_dry 3 = .ok (.istore_n 3, 1) := by decide +kernel
theorem dX6_dry_4 : decode cX6_dry 4 = .ok (.iload_n 3, 1) := by decide +kernel
theorem dX6_dry_5 : decode cX6_dry 5 = .ok (.iload_n 1, 1) := by decide +kernel
theorem dX6_dry_6 : decode cX6_dry 6 = .ok (.if_icmp .ge 16, 3) := by decide +kernel
theorem dX6_dry_9 : decode cX6_dry 9 = .ok (.iload_n 2, 1) := by decide +kernel
theorem dX6_dry_10 : decode cX6_dry 10 = .ok (.aload_n 0, 1) := by decide +kernel
theorem dX6_dry_11 : decode cX6_dry 11 = .ok (.invokevirtual 117, 3) := by decide +kernel
theorem dX6_dry_14 : decode cX6_dry 14 = .ok (.iadd, 1) := by decide +kernel
theorem dX6_dry_15 : decode cX6_dry 15 = .ok (.istore_n 2, 1) := by decide +kernel
theorem dX6_dry_16 : decode cX6_dry 16 = .ok (.iinc 3 1, 3) := by decide +kernel
theorem dX6_dry_19 : decode cX6_dry 19 = .ok (.goto (-15), 3) := by decide +kernel
theorem dX6_dry_22 : decode cX6_dry 22 = .ok (.aload_n 0, 1) := by decide +kernel
theorem dX6_dry_23 : decode cX6_dry 23 = .ok (.dup, 1) := by decide +kernel
theorem dX6_dry_24 : decode cX6_dry 24 = .ok (.getfield 61, 3) := by decide +kernel
theorem dX6_dry_27 : decode cX6_dry 27 = .ok (.iload_n 2, 1) := by decide +kernel
theorem dX6_dry_28 : decode cX6_dry 28 = .ok (.i2l, 1) := by decide +kernel
theorem dX6_dry_29 : decode cX6_dry 29 = .ok (.ladd, 1) := by decide +kernel
theorem dX6_dry_30 : decode cX6_dry 30 = .ok (.putfield 61, 3) := by decide +kernel
theorem dX6_dry_33 : decode cX6_dry 33 = .ok (.iload_n 2, 1) := by decide +kernel
theorem dX6_dry_34 : decode cX6_dry 34 = .ok (.ireturn, 1) := by decide +kernel
theorem dX6_dryOnce_0 : decode cX6_dryOnce 0 = .ok (.aload_n 0, 1) := by decide +kernel
theorem dX6_dryOnce_1 : decode cX6_dryOnce 1 = .ok (.aload_n 0, 1) := by decide +kernel
theorem dX6_dryOnce_2 : decode cX6_dryOnce 2 = .ok (.getfield 28, 3) := by decide +kernel
theorem dX6_dryOnce_5 : decode cX6_dryOnce 5 = .ok (.invokevirtual 77, 3) := by decide +kernel
theorem dX6_dryOnce_8 : decode cX6_dryOnce 8 = .ok (.putfield 81, 3) := by decide +kernel
theorem dX6_dryOnce_11 : decode cX6_dryOnce 11 = .ok (.iconst 0, 1) := by decide +kernel
theorem dX6_dryOnce_12 : decode cX6_dryOnce 12 = .ok (.istore_n 1, 1) := by decide +kernel
theorem dX6_dryOnce_13 : decode cX6_dryOnce 13 = .ok (.iconst 0, 1) := by decide +kernel
theorem dX6_dryOnce_14 : decode cX6_dryOnce 14 = .ok (.istore_n 2, 1) := by decide +kernel
theorem dX6_dryOnce_15 : decode cX6_dryOnce 15 = .ok (.iload_n 2, 1) := by decide +kernel
theorem dX6_dryOnce_16 : decode cX6_dryOnce 16 = .ok (.aload_n 0, 1) := by decide +kernel
theorem dX6_dryOnce_17 : decode cX6_dryOnce 17 = .ok (.getfield 81, 3) := by decide +kernel
theorem dX6_dryOnce_20 : decode cX6_dryOnce 20 = .ok (.if_icmp .ge 68, 3) := by decide +kernel
theorem dX6_dryOnce_23 : decode cX6_dryOnce 23 = .ok (.aload_n 0, 1) := by decide +kernel
theorem dX6_dryOnce_24 : decode cX6_dryOnce 24 = .ok (.getfield 28, 3) := by decide +kernel
theorem dX6_dryOnce_27 : decode cX6_dryOnce 27 = .ok (.iload_n 2, 1) := by decide +kernel
theorem dX6_dryOnce_28 : decode cX6_dryOnce 28 = .ok (.invokevirtual 85, 3) := by decide +kernel
theorem dX6_dryOnce_31 : decode cX6_dryOnce 31 = .ok (.istore_n 3, 1) := by decide +kernel
theorem dX6_dryOnce_32 : decode cX6_dryOnce 32 = .ok (.aload_n 0, 1) := by decide +kernel
theorem dX6_dryOnce_33 : decode cX6_dryOnce 33 = .ok (.getfield 28, 3) := by decide +kernel
theorem dX6_dryOnce_36 : decode cX6_dryOnce 36 = .ok (.aload_n 0, 1) := by decide +kernel
theorem dX6_dryOnce_37 : decode cX6_dryOnce 37 = .ok (.getfield 12, 3) := by decide +kernel
theorem dX6_dryOnce_40 : decode cX6_dryOnce 40 = .ok (.iload_n 3, 1) := by decide +kernel
theorem dX6_dryOnce_41 : decode cX6_dryOnce 41 = .ok (.invokevirtual 120, 3) := by decide +kernel
theorem dX6_dryOnce_44 : decode cX6_dryOnce 44 = .ok (.invokestatic 124, 3) := by decide +kernel
theorem dX6_dryOnce_47 : decode cX6_dryOnce 47 = .ok (.istore 4, 2) := by decide +kernel
theorem dX6_dryOnce_49 : decode cX6_dryOnce 49 = .ok (.aload_n 0, 1) := by decide +kernel
theorem dX6_dryOnce_50 : decode cX6_dryOnce 50 = .ok (.getfield 37, 3) := by decide +kernel
theorem dX6_dryOnce_53 : decode cX6_dryOnce 53 = .ok (.iload_n 2, 1) := by decide +kernel
theorem dX6_dryOnce_54 : decode cX6_dryOnce 54 = .ok (.iload_n 3, 1) := by decide +kernel
theorem dX6_dryOnce_55 : decode cX6_dryOnce 55 = .ok (.invokevirtual 93, 3) := by decide +kernel
theorem dX6_dryOnce_58 : decode cX6_dryOnce 58 = .ok (.aload_n 0, 1) := by decide +kernel
theorem dX6_dryOnce_59 : decode cX6_dryOnce 59 = .ok (.getfield 41, 3) := by decide +kernel
theorem dX6_dryOnce_62 : decode cX6_dryOnce 62 = .ok (.iload_n 2, 1) := by decide +kernel
theorem dX6_dryOnce_63 : decode cX6_dryOnce 63 = .ok (.iload 4, 2) := by decide +kernel
theorem dX6_dryOnce_65 : decode cX6_dryOnce 65 = .ok (.aload_n 0, 1) := by decide +kernel
theorem dX6_dryOnce_66 : decode cX6_dryOnce 66 = .ok (.getfield 28, 3) := by decide +kernel
theorem dX6_dryOnce_69 : decode cX6_dryOnce 69 = .ok (.getfield 97, 3) := by decide +kernel
theorem dX6_dryOnce_72 : decode cX6_dryOnce 72 = .ok (.iload_n 3, 1) := by decide +kernel
theorem dX6_dryOnce_73 : decode cX6_dryOnce 73 = .ok (.invokevirtual 100, 3) := by decide +kernel
theorem dX6_dryOnce_76 : decode cX6_dryOnce 76 = .ok (.invokestatic 130, 3) := by decide +kernel
theorem dX6_dryOnce_79 : decode cX6_dryOnce 79 = .ok (.invokevirtual 93, 3) := by decide +kernel
theorem dX6_dryOnce_82 : decode cX6_dryOnce 82 = .ok (.iinc 2 1, 3) := by decide +kernel
theorem dX6_dryOnce_85 : decode cX6_dryOnce 85 = .ok (.goto (-70), 3) := by decide +kernel
theorem dX6_dryOnce_88 : decode cX6_dryOnce 88 = .ok (.iconst 0, 1) := by decide +kernel
theorem dX6_dryOnce_89 : decode cX6_dryOnce 89 = .ok (.istore_n 2, 1) := by decide +kernel
theorem dX6_dryOnce_90 : decode cX6_dryOnce 90 = .ok (.iload_n 2, 1) := by decide +kernel
theorem dX6_dryOnce_91 : decode cX6_dryOnce 91 = .ok (.aload_n 0, 1) := by decide +kernel
theorem dX6_dryOnce_92 : decode cX6_dryOnce 92 = .ok (.getfield 81, 3) := by decide +kernel
theorem dX6_dryOnce_95 : decode cX6_dryOnce 95 = .ok (.if_icmp .ge 43, 3) := by decide +kernel
theorem dX6_dryOnce_98 : decode cX6_dryOnce 98 = .ok (.aload_n 0, 1) := by decide +kernel
theorem dX6_dryOnce_99 : decode cX6_dryOnce 99 = .ok (.getfield 28, 3) := by decide +kernel
theorem dX6_dryOnce_102 : decode cX6_dryOnce 102 = .ok (.aload_n 0, 1) := by decide +kernel
theorem dX6_dryOnce_103 : decode cX6_dryOnce 103 = .ok (.getfield 37, 3) := by decide +kernel
theorem dX6_dryOnce_106 : decode cX6_dryOnce 106 = .ok (.iload_n 2, 1) := by decide +kernel
theorem dX6_dryOnce_107 : decode cX6_dryOnce 107 = .ok (.invokevirtual 100, 3) := by decide +kernel
theorem dX6_dryOnce_110 : decode cX6_dryOnce 110 = .ok (.aload_n 0, 1) := by decide +kernel
theorem dX6_dryOnce_111 : decode cX6_dryOnce 111 = .ok (.getfield 41, 3) := by decide +kernel
theorem dX6_dryOnce_114 : decode cX6_dryOnce 114 = .ok (.iload_n 2, 1) := by decide +kernel
theorem dX6_dryOnce_115 : decode cX6_dryOnce 115 = .ok (.invokevirtual 100, 3) := by decide +kernel
theorem dX6_dryOnce_118 : decode cX6_dryOnce 118 = .ok (.invokevirtual 135, 3) := by decide +kernel
theorem dX6_dryOnce_121 : decode cX6_dryOnce 121 = .ok (.iload_n 1, 1) := by decide +kernel
theorem dX6_dryOnce_122 : decode cX6_dryOnce 122 = .ok (.aload_n 0, 1) := by decide +kernel
theorem dX6_dryOnce_123 : decode cX6_dryOnce 123 = .ok (.getfield 41, 3) := by decide +kernel
theorem dX6_dryOnce_126 : decode cX6_dryOnce 126 = .ok (.iload_n 2, 1) := by decide +kernel
theorem dX6_dryOnce_127 : decode cX6_dryOnce 127 = .ok (.invokevirtual 100, 3) := by decide +kernel
theorem dX6_dryOnce_130 : decode cX6_dryOnce 130 = .ok (.iadd, 1) := by decide +kernel
theorem dX6_dryOnce_131 : decode cX6_dryOnce 131 = .ok (.istore_n 1, 1) := by decide +kernel
theorem dX6_dryOnce_132 : decode cX6_dryOnce 132 = .ok (.iinc 2 1, 3) := by decide +kernel
theorem dX6_dryOnce_135 : decode cX6_dryOnce 135 = .ok (.goto (-45), 3) := by decide +kernel
theorem dX6_dryOnce_138 : decode cX6_dryOnce 138 = .ok (.iload_n 1, 1) := by decide +kernel
theorem dX6_dryOnce_139 : decode cX6_dryOnce 139 = .ok (.ireturn, 1) := by decide +kernel
theorem dX6_isWet_0 : decode cX6_isWet 0 = .ok (.aload_n 0, 1) := by decide +kernel
theorem dX6_isWet_1 : decode cX6_isWet 1 = .ok (.getfield 28, 3) := by decide +kernel
theorem dX6_isWet_4 : decode cX6_isWet 4 = .ok (.aload_n 0, 1) := by decide +kernel
theorem dX6_isWet_5 : decode cX6_isWet 5 = .ok (.getfield 12, 3) := by decide +kernel
theorem dX6_isWet_8 : decode cX6_isWet 8 = .ok (.aload_n 0, 1) := by decide +kernel
theorem dX6_isWet_9 : decode cX6_isWet 9 = .ok (.getfield 28, 3) := by decide +kernel
theorem dX6_isWet_12 : decode cX6_isWet 12 = .ok (.getfield 107, 3) := by decide +kernel
theorem dX6_isWet_15 : decode cX6_isWet 15 = .ok (.iload_n 1, 1) := by decide +kernel
theorem dX6_isWet_16 : decode cX6_isWet 16 = .ok (.invokevirtual 100, 3) := by decide +kernel
theorem dX6_isWet_19 : decode cX6_isWet 19 = .ok (.invokevirtual 120, 3) := by decide +kernel
theorem dX6_isWet_22 : decode cX6_isWet 22 = .ok (.iload_n 1, 1) := by decide +kernel
theorem dX6_isWet_23 : decode cX6_isWet 23 = .ok (.invokestatic 138, 3) := by decide +kernel
theorem dX6_isWet_26 : decode cX6_isWet 26 = .ok (.ireturn, 1) := by decide +kernel
theorem dX6_wetTotal_0 : decode cX6_wetTotal 0 = .ok (.iconst 0, 1) := by decide +kernel
theorem dX6_wetTotal_1 : decode cX6_wetTotal 1 = .ok (.istore_n 1, 1) := by decide +kernel
theorem dX6_wetTotal_2 : decode cX6_wetTotal 2 = .ok (.iconst 0, 1) := by decide +kernel
theorem dX6_wetTotal_3 : decode cX6_wetTotal 3 = .ok (.istore_n 2, 1) := by decide +kernel
theorem dX6_wetTotal_4 : decode cX6_wetTotal 4 = .ok (.iload_n 2, 1) := by decide +kernel
theorem dX6_wetTotal_5 : decode cX6_wetTotal 5 = .ok (.aload_n 0, 1) := by decide +kernel
theorem dX6_wetTotal_6 : decode cX6_wetTotal 6 = .ok (.getfield 12, 3) := by decide +kernel
theorem dX6_wetTotal_9 : decode cX6_wetTotal 9 = .ok (.getfield 114, 3) := by decide +kernel
theorem dX6_wetTotal_12 : decode cX6_wetTotal 12 = .ok (.if_icmp .ge 25, 3) := by decide +kernel
theorem dX6_wetTotal_15 : decode cX6_wetTotal 15 = .ok (.iload_n 1, 1) := by decide +kernel
theorem dX6_wetTotal_16 : decode cX6_wetTotal 16 = .ok (.aload_n 0, 1) := by decide +kernel
theorem dX6_wetTotal_17 : decode cX6_wetTotal 17 = .ok (.iload_n 2, 1) := by decide +kernel
theorem dX6_wetTotal_18 : decode cX6_wetTotal 18 = .ok (.invokevirtual 142, 3) := by decide +kernel
theorem dX6_wetTotal_21 : decode cX6_wetTotal 21 = .ok (.ifCond .eq 7, 3) := by decide +kernel
theorem dX6_wetTotal_24 : decode cX6_wetTotal 24 = .ok (.iconst 1, 1) := by decide +kernel
theorem dX6_wetTotal_25 : decode cX6_wetTotal 25 = .ok (.goto 4, 3) := by decide +kernel
theorem dX6_wetTotal_28 : decode cX6_wetTotal 28 = .ok (.iconst 0, 1) := by decide +kernel
theorem dX6_wetTotal_29 : decode cX6_wetTotal 29 = .ok (.iadd, 1) := by decide +kernel
theorem dX6_wetTotal_30 : decode cX6_wetTotal 30 = .ok (.istore_n 1, 1) := by decide +kernel
theorem dX6_wetTotal_31 : decode cX6_wetTotal 31 = .ok (.iinc 2 1, 3) := by decide +kernel
theorem dX6_wetTotal_34 : decode cX6_wetTotal 34 = .ok (.goto (-30), 3) := by decide +kernel
theorem dX6_wetTotal_37 : decode cX6_wetTotal 37 = .ok (.iload_n 1, 1) := by decide +kernel
theorem dX6_wetTotal_38 : decode cX6_wetTotal 38 = .ok (.ireturn, 1) := by decide +kernel
theorem dX6_seaTotal_0 : decode cX6_seaTotal 0 = .ok (.iconst 0, 1) := by decide +kernel
theorem dX6_seaTotal_1 : decode cX6_seaTotal 1 = .ok (.istore_n 1, 1) := by decide +kernel
theorem dX6_seaTotal_2 : decode cX6_seaTotal 2 = .ok (.iconst 0, 1) := by decide +kernel
theorem dX6_seaTotal_3 : decode cX6_seaTotal 3 = .ok (.istore_n 2, 1) := by decide +kernel
theorem dX6_seaTotal_4 : decode cX6_seaTotal 4 = .ok (.iload_n 2, 1) := by decide +kernel
theorem dX6_seaTotal_5 : decode cX6_seaTotal 5 = .ok (.aload_n 0, 1) := by decide +kernel
theorem dX6_seaTotal_6 : decode cX6_seaTotal 6 = .ok (.getfield 12, 3) := by decide +kernel
theorem dX6_seaTotal_9 : decode cX6_seaTotal 9 = .ok (.getfield 114, 3) := by decide +kernel
theorem dX6_seaTotal_12 : decode cX6_seaTotal 12 = .ok (.if_icmp .ge 32, 3) := by decide +kernel
theorem dX6_seaTotal_15 : decode cX6_seaTotal 15 = .ok (.iload_n 1, 1) := by decide +kernel
theorem dX6_seaTotal_16 : decode cX6_seaTotal 16 = .ok (.aload_n 0, 1) := by decide +kernel
theorem dX6_seaTotal_17 : decode cX6_seaTotal 17 = .ok (.getfield 21, 3) := by decide +kernel
theorem dX6_seaTotal_20 : decode cX6_seaTotal 20 = .ok (.getfield 146, 3) := by decide +kernel
theorem dX6_seaTotal_23 : decode cX6_seaTotal 23 = .ok (.iload_n 2, 1) := by decide +kernel
theorem dX6_seaTotal_24 : decode cX6_seaTotal 24 = .ok (.invokevirtual 100, 3) := by decide +kernel
theorem dX6_seaTotal_27 : decode cX6_seaTotal 27 = .ok (.iconst (-1), 1) := by decide +kernel
theorem dX6_seaTotal_28 : decode cX6_seaTotal 28 = .ok (.if_icmp .ne 7, 3) := by decide +kernel
theorem dX6_seaTotal_31 : decode cX6_seaTotal 31 = .ok (.iconst 1, 1) := by decide +kernel
theorem dX6_seaTotal_32 : decode cX6_seaTotal 32 = .ok (.goto 4, 3) := by decide +kernel
theorem dX6_seaTotal_35 : decode cX6_seaTotal 35 = .ok (.iconst 0, 1) := by decide +kernel
theorem dX6_seaTotal_36 : decode cX6_seaTotal 36 = .ok (.iadd, 1) := by decide +kernel
theorem dX6_seaTotal_37 : decode cX6_seaTotal 37 = .ok (.istore_n 1, 1) := by decide +kernel
theorem dX6_seaTotal_38 : decode cX6_seaTotal 38 = .ok (.iinc 2 1, 3) := by decide +kernel
theorem dX6_seaTotal_41 : decode cX6_seaTotal 41 = .ok (.goto (-37), 3) := by decide +kernel
theorem dX6_seaTotal_44 : decode cX6_seaTotal 44 = .ok (.iload_n 1, 1) := by decide +kernel
theorem dX6_seaTotal_45 : decode cX6_seaTotal 45 = .ok (.ireturn, 1) := by decide +kernel
