theorem dX0_init_0 : decode kX0_init.2.1 0 = .ok (.aload_n 0, 1) := by decide +kernel
theorem dX0_init_1 : decode kX0_init.2.1 1 = .ok (.invokespecial 3, 3) := by decide +kernel
theorem dX0_init_4 : decode kX0_init.2.1 4 = .ok (.aload_n 0, 1) := by decide +kernel
theorem dX0_init_5 : decode kX0_init.2.1 5 = .ok (.bipush 10, 2) := by decide +kernel
theorem dX0_init_7 : decode kX0_init.2.1 7 = .ok (.putfield 9, 3) := by decide +kernel
theorem dX0_init_10 : decode kX0_init.2.1 10 = .ok (.aload_n 0, 1) := by decide +kernel
theorem dX0_init_11 : decode kX0_init.2.1 11 = .ok (.bipush 10, 2) := by decide +kernel
theorem dX0_init_13 : decode kX0_init.2.1 13 = .ok (.putfield 15, 3) := by decide +kernel
theorem dX0_init_16 : decode kX0_init.2.1 16 = .ok (.aload_n 0, 1) := by decide +kernel
theorem dX0_init_17 : decode kX0_init.2.1 17 = .ok (.bipush 10, 2) := by decide +kernel
theorem dX0_init_19 : decode kX0_init.2.1 19 = .ok (.putfield 18, 3) := by decide +kernel
theorem dX0_init_22 : decode kX0_init.2.1 22 = .ok (.aload_n 0, 1) := by decide +kernel
theorem dX0_init_23 : decode kX0_init.2.1 23 = .ok (.iconst 1, 1) := by decide +kernel
theorem dX0_init_24 : decode kX0_init.2.1 24 = .ok (.putfield 21, 3) := by decide +kernel
theorem dX0_init_27 : decode kX0_init.2.1 27 = .ok (.aload_n 0, 1) := by decide +kernel
theorem dX0_init_28 : decode kX0_init.2.1 28 = .ok (.bipush 10, 2) := by decide +kernel
theorem dX0_init_30 : decode kX0_init.2.1 30 = .ok (.putfield 24, 3) := by decide +kernel
theorem dX0_init_33 : decode kX0_init.2.1 33 = .ok (.aload_n 0, 1) := by decide +kernel
theorem dX0_init_34 : decode kX0_init.2.1 34 = .ok (.iconst 0, 1) := by decide +kernel
theorem dX0_init_35 : decode kX0_init.2.1 35 = .ok (.putfield 27, 3) := by decide +kernel
theorem dX0_init_38 : decode kX0_init.2.1 38 = .ok (.aload_n 0, 1) := by decide +kernel
theorem dX0_init_39 : decode kX0_init.2.1 39 = .ok (.iconst 0, 1) := by decide +kernel
theorem dX0_init_40 : decode kX0_init.2.1 40 = .ok (.putfield 30, 3) := by decide +kernel
theorem dX0_init_43 : decode kX0_init.2.1 43 = .ok (.aload_n 0, 1) := by decide +kernel
theorem dX0_init_44 : decode kX0_init.2.1 44 = .ok (.iconst 0, 1) := by decide +kernel
theorem dX0_init_45 : decode kX0_init.2.1 45 = .ok (.putfield 33, 3) := by decide +kernel
theorem dX0_init_48 : decode kX0_init.2.1 48 = .ok (.aload_n 0, 1) := by decide +kernel
theorem dX0_init_49 : decode kX0_init.2.1 49 = .ok (.iconst 4, 1) := by decide +kernel
theorem dX0_init_50 : decode kX0_init.2.1 50 = .ok (.newarray .int, 2) := by decide +kernel
theorem dX0_init_52 : decode kX0_init.2.1 52 = .ok (.putfield 36, 3) := by decide +kernel
theorem dX0_init_55 : decode kX0_init.2.1 55 = .ok (.aload_n 0, 1) := by decide +kernel
theorem dX0_init_56 : decode kX0_init.2.1 56 = .ok (.aconst_null, 1) := by decide +kernel
theorem dX0_init_57 : decode kX0_init.2.1 57 = .ok (.putfield 40, 3) := by decide +kernel
theorem dX0_init_60 : decode kX0_init.2.1 60 = .ok (.aload_n 0, 1) := by decide +kernel
theorem dX0_init_61 : decode kX0_init.2.1 61 = .ok (.aconst_null, 1) := by decide +kernel
theorem dX0_init_62 : decode kX0_init.2.1 62 = .ok (.putfield 44, 3) := by decide +kernel
theorem dX0_init_65 : decode kX0_init.2.1 65 = .ok (.return_, 1) := by decide +kernel
theorem dX0_shakeOf_0 : decode kX0_shakeOf.2.1 0 = .ok (.iload_n 1, 1) := by decide +kernel
theorem dX0_shakeOf_1 : decode kX0_shakeOf.2.1 1 = .ok (.ifCond .lt 21, 3) := by decide +kernel
theorem dX0_shakeOf_4 : decode kX0_shakeOf.2.1 4 = .ok (.iload_n 1, 1) := by decide +kernel
theorem dX0_shakeOf_5 : decode kX0_shakeOf.2.1 5 = .ok (.aload_n 0, 1) := by decide +kernel
theorem dX0_shakeOf_6 : decode kX0_shakeOf.2.1 6 = .ok (.getfield 36, 3) := by decide +kernel
theorem dX0_shakeOf_9 : decode kX0_shakeOf.2.1 9 = .ok (.arraylength, 1) := by decide +kernel
theorem dX0_shakeOf_10 : decode kX0_shakeOf.2.1 10 = .ok (.if_icmp .ge 12, 3) := by decide +kernel
theorem dX0_shakeOf_13 : decode kX0_shakeOf.2.1 13 = .ok (.aload_n 0, 1) := by decide +kernel
theorem dX0_shakeOf_14 : decode kX0_shakeOf.2.1 14 = .ok (.getfield 36, 3) := by decide +kernel
theorem dX0_shakeOf_17 : decode kX0_shakeOf.2.1 17 = .ok (.iload_n 1, 1) := by decide +kernel
theorem dX0_shakeOf_18 : decode kX0_shakeOf.2.1 18 = .ok (.iaload, 1) := by decide +kernel
theorem dX0_shakeOf_19 : decode kX0_shakeOf.2.1 19 = .ok (.goto 4, 3) := by decide +kernel
theorem dX0_shakeOf_22 : decode kX0_shakeOf.2.1 22 = .ok (.iconst 0, 1) := by decide +kernel
theorem dX0_shakeOf_23 : decode kX0_shakeOf.2.1 23 = .ok (.ireturn, 1) := by decide +kernel
theorem dX0_addShooter_0 : decode kX0_addShooter.2.1 0 = .ok (.aload_n 0, 1) := by decide +kernel
theorem dX0_addShooter_1 : decode kX0_addShooter.2.1 1 = .ok (.getfield 33, 3) := by decide +kernel
theorem dX0_addShooter_4 : decode kX0_addShooter.2.1 4 = .ok (.aload_n 0, 1) := by decide +kernel
theorem dX0_addShooter_5 : decode kX0_addShooter.2.1 5 = .ok (.getfield 36, 3) := by decide +kernel
theorem dX0_addShooter_8 : decode kX0_addShooter.2.1 8 = .ok (.arraylength, 1) := by decide +kernel
theorem dX0_addShooter_9 : decode kX0_addShooter.2.1 9 = .ok (.if_icmp .ge 23, 3) := by decide +kernel
theorem dX0_addShooter_12 : decode kX0_addShooter.2.1 12 = .ok (.aload_n 0, 1) := by decide +kernel
theorem dX0_addShooter_13 : decode kX0_addShooter.2.1 13 = .ok (.getfield 36, 3) := by decide +kernel
theorem dX0_addShooter_16 : decode kX0_addShooter.2.1 16 = .ok (.aload_n 0, 1) := by decide +kernel
theorem dX0_addShooter_17 : decode kX0_addShooter.2.1 17 = .ok (.getfield 33, 3) := by decide +kernel
theorem dX0_addShooter_20 : decode kX0_addShooter.2.1 20 = .ok (.iload_n 1, 1) := by decide +kernel
theorem dX0_addShooter_21 : decode kX0_addShooter.2.1 21 = .ok (.iastore, 1) := by decide +kernel
theorem dX0_addShooter_22 : decode kX0_addShooter.2.1 22 = .ok (.aload_n 0, 1) := by decide +kernel
theorem dX0_addShooter_23 : decode kX0_addShooter.2.1 23 = .ok (.dup, 1) := by decide +kernel
theorem dX0_addShooter_24 : decode kX0_addShooter.2.1 24 = .ok (.getfield 33, 3) := by decide +kernel
theorem dX0_addShooter_27 : decode kX0_addShooter.2.1 27 = .ok (.iconst 1, 1) := by decide +kernel
theorem dX0_addShooter_28 : decode kX0_addShooter.2.1 28 = .ok (.iadd, 1) := by decide +kernel
theorem dX0_addShooter_29 : decode kX0_addShooter.2.1 29 = .ok (.putfield 33, 3) := by decide +kernel
theorem dX0_addShooter_32 : decode kX0_addShooter.2.1 32 = .ok (.return_, 1) := by decide +kernel
theorem dX0_distance_0 : decode kX0_distance.2.1 0 = .ok (.iload_n 1, 1) := by decide +kernel
theorem dX0_distance_1 : decode kX0_distance.2.1 1 = .ok (.aload_n 0, 1) := by decide +kernel
theorem dX0_distance_2 : decode kX0_distance.2.1 2 = .ok (.getfield 9, 3) := by decide +kernel
theorem dX0_distance_5 : decode kX0_distance.2.1 5 = .ok (.if_icmp .ge 10, 3) := by decide +kernel
theorem dX0_distance_8 : decode kX0_distance.2.1 8 = .ok (.aload_n 0, 1) := by decide +kernel
theorem dX0_distance_9 : decode kX0_distance.2.1 9 = .ok (.getfield 9, 3) := by decide +kernel
theorem dX0_distance_12 : decode kX0_distance.2.1 12 = .ok (.iload_n 1, 1) := by decide +kernel
theorem dX0_distance_13 : decode kX0_distance.2.1 13 = .ok (.isub, 1) := by decide +kernel
theorem dX0_distance_14 : decode kX0_distance.2.1 14 = .ok (.ireturn, 1) := by decide +kernel
theorem dX0_distance_15 : decode kX0_distance.2.1 15 = .ok (.iload_n 1, 1) := by decide +kernel
theorem dX0_distance_16 : decode kX0_distance.2.1 16 = .ok (.aload_n 0, 1) := by decide +kernel
theorem dX0_distance_17 : decode kX0_distance.2.1 17 = .ok (.getfield 15, 3) := by decide +kernel
theorem dX0_distance_20 : decode kX0_distance.2.1 20 = .ok (.if_icmp .le 12, 3) := by decide +kernel
theorem dX0_distance_23 : decode kX0_distance.2.1 23 = .ok (.iload_n 1, 1) := by decide +kernel
theorem dX0_distance_24 : decode kX0_distance.2.1 24 = .ok (.aload_n 0, 1) := by decide +kernel
theorem dX0_distance_25 : decode kX0_distance.2.1 25 = .ok (.getfield 15, 3) := by decide +kernel
theorem dX0_distance_28 : decode kX0_distance.2.1 28 = .ok (.isub, 1) := by decide +kernel
theorem dX0_distance_29 : decode kX0_distance.2.1 29 = .ok (.goto 4, 3) := by decide +kernel
theorem dX0_distance_32 : decode kX0_distance.2.1 32 = .ok (.iconst 0, 1) := by decide +kernel
theorem dX0_distance_33 : decode kX0_distance.2.1 33 = .ok (.ireturn, 1) := by decide +kernel
theorem dX0_worth_0 : decode kX0_worth.2.1 0 = .ok (.aload_n 0, 1) := by decide +kernel
theorem dX0_worth_1 : decode kX0_worth.2.1 1 = .ok (.iload_n 1, 1) := by decide +kernel
theorem dX0_worth_2 : decode kX0_worth.2.1 2 = .ok (.invokevirtual 47, 3) := by decide +kernel
theorem dX0_worth_5 : decode kX0_worth.2.1 5 = .ok (.istore_n 3, 1) := by decide +kernel
theorem dX0_worth_6 : decode kX0_worth.2.1 6 = .ok (.iload_n 3, 1) := by decide +kernel
theorem dX0_worth_7 : decode kX0_worth.2.1 7 = .ok (.ifCond .ne 17, 3) := by decide +kernel
theorem dX0_worth_10 : decode kX0_worth.2.1 10 = .ok (.iload_n 2, 1) := by decide +kernel
theorem dX0_worth_11 : decode kX0_worth.2.1 11 = .ok (.ifCond .eq 11, 3) := by decide +kernel
theorem dX0_worth_14 : decode kX0_worth.2.1 14 = .ok (.aload_n 0, 1) := by decide +kernel
theorem dX0_worth_15 : decode kX0_worth.2.1 15 = .ok (.getfield 24, 3) := by decide +kernel
theorem dX0_worth_18 : decode kX0_worth.2.1 18 = .ok (.ineg, 1) := by decide +kernel
theorem dX0_worth_19 : decode kX0_worth.2.1 19 = .ok (.goto 4, 3) := by decide +kernel
theorem dX0_worth_22 : decode kX0_worth.2.1 22 = .ok (.iconst 0, 1) := by decide +kernel
theorem dX0_worth_23 : decode kX0_worth.2.1 23 = .ok (.ireturn, 1) := by decide +kernel
theorem dX0_worth_24 : decode kX0_worth.2.1 24 = .ok (.iconst 0, 1) := by decide +kernel
theorem dX0_worth_25 : decode kX0_worth.2.1 25 = .ok (.aload_n 0, 1) := by decide +kernel
theorem dX0_worth_26 : decode kX0_worth.2.1 26 = .ok (.getfield 18, 3) := by decide +kernel
theorem dX0_worth_29 : decode kX0_worth.2.1 29 = .ok (.aload_n 0, 1) := by decide +kernel
theorem dX0_worth_30 : decode kX0_worth.2.1 30 = .ok (.getfield 21, 3) := by decide +kernel
theorem dX0_worth_33 : decode kX0_worth.2.1 33 = .ok (.iload_n 3, 1) := by decide +kernel
theorem dX0_worth_34 : decode kX0_worth.2.1 34 = .ok (.iconst 1, 1) := by decide +kernel
theorem dX0_worth_35 : decode kX0_worth.2.1 35 = .ok (.isub, 1) := by decide +kernel
theorem dX0_worth_36 : decode kX0_worth.2.1 36 = .ok (.imul, 1) := by decide +kernel
theorem dX0_worth_37 : decode kX0_worth.2.1 37 = .ok (.isub, 1) := by decide +kernel
theorem dX0_worth_38 : decode kX0_worth.2.1 38 = .ok (.invokestatic 51, 3) := by decide +kernel
theorem dX0_worth_41 : decode kX0_worth.2.1 41 = .ok (.ireturn, 1) := by decide +kernel
theorem dX1_init_0 : decode kX1_init.2.1 0 = .ok (.aload_n 0, 1) := by decide +kernel
theorem dX1_init_1 : decode kX1_init.2.1 1 = .ok (.invokespecial 3, 3) := by decide +kernel
theorem dX1_init_4 : decode kX1_init.2.1 4 = .ok (.aload_n 0, 1) := by decide +kernel
theorem dX1_init_5 : decode kX1_init.2.1 5 = .ok (.bipush 10, 2) := by decide +kernel
theorem dX1_init_7 : decode kX1_init.2.1 7 = .ok (.anewarray 9, 3) := by decide +kernel
theorem dX1_init_10 : decode kX1_init.2.1 10 = .ok (.putfield 11, 3) := by decide +kernel
theorem dX1_init_13 : decode kX1_init.2.1 13 = .ok (.aload_n 0, 1) := by decide +kernel
theorem dX1_init_14 : decode kX1_init.2.1 14 = .ok (.iconst 0, 1) := by decide +kernel
theorem dX1_init_15 : decode kX1_init.2.1 15 = .ok (.putfield 17, 3) := by decide +kernel
theorem dX1_init_18 : decode kX1_init.2.1 18 = .ok (.aload_n 0, 1) := by decide +kernel
theorem dX1_init_19 : decode kX1_init.2.1 19 = .ok (.iconst 0, 1) := by decide +kernel
theorem dX1_init_20 : decode kX1_init.2.1 20 = .ok (.putfield 21, 3) := by decide +kernel
theorem dX1_init_23 : decode kX1_init.2.1 23 = .ok (.iconst 0, 1) := by decide +kernel
theorem dX1_init_24 : decode kX1_init.2.1 24 = .ok (.istore_n 1, 1) := by decide +kernel
theorem dX1_init_25 : decode kX1_init.2.1 25 = .ok (.iload_n 1, 1) := by decide +kernel
theorem dX1_init_26 : decode kX1_init.2.1 26 = .ok (.aload_n 0, 1) := by decide +kernel
theorem dX1_init_27 : decode kX1_init.2.1 27 = .ok (.getfield 11, 3) := by decide +kernel
theorem dX1_init_30 : decode kX1_init.2.1 30 = .ok (.arraylength, 1) := by decide +kernel
theorem dX1_init_31 : decode kX1_init.2.1 31 = .ok (.if_icmp .ge 22, 3) := by decide +kernel
theorem dX1_init_34 : decode kX1_init.2.1 34 = .ok (.aload_n 0, 1) := by decide +kernel
theorem dX1_init_35 : decode kX1_init.2.1 35 = .ok (.getfield 11, 3) := by decide +kernel
theorem dX1_init_38 : decode kX1_init.2.1 38 = .ok (.iload_n 1, 1) := by decide +kernel
theorem dX1_init_39 : decode kX1_init.2.1 39 = .ok (.new 9, 3) := by decide +kernel
theorem dX1_init_42 : decode kX1_init.2.1 42 = .ok (.dup, 1) := by decide +kernel
theorem dX1_init_43 : decode kX1_init.2.1 43 = .ok (.invokespecial 24, 3) := by decide +kernel
theorem dX1_init_46 : decode kX1_init.2.1 46 = .ok (.aastore, 1) := by decide +kernel
theorem dX1_init_47 : decode kX1_init.2.1 47 = .ok (.iinc 1 1, 3) := by decide +kernel
theorem dX1_init_50 : decode kX1_init.2.1 50 = .ok (.goto (-25), 3) := by decide +kernel
theorem dX1_init_53 : decode kX1_init.2.1 53 = .ok (.return_, 1) := by decide +kernel
theorem dX1_keep_0 : decode kX1_keep.2.1 0 = .ok (.aload_n 0, 1) := by decide +kernel
theorem dX1_keep_1 : decode kX1_keep.2.1 1 = .ok (.getfield 11, 3) := by decide +kernel
theorem dX1_keep_4 : decode kX1_keep.2.1 4 = .ok (.aload_n 0, 1) := by decide +kernel
theorem dX1_keep_5 : decode kX1_keep.2.1 5 = .ok (.getfield 17, 3) := by decide +kernel
theorem dX1_keep_8 : decode kX1_keep.2.1 8 = .ok (.aaload, 1) := by decide +kernel
theorem dX1_keep_9 : decode kX1_keep.2.1 9 = .ok (.aload_n 1, 1) := by decide +kernel
theorem dX1_keep_10 : decode kX1_keep.2.1 10 = .ok (.invokevirtual 25, 3) := by decide +kernel
theorem dX1_keep_13 : decode kX1_keep.2.1 13 = .ok (.aload_n 0, 1) := by decide +kernel
theorem dX1_keep_14 : decode kX1_keep.2.1 14 = .ok (.aload_n 0, 1) := by decide +kernel
theorem dX1_keep_15 : decode kX1_keep.2.1 15 = .ok (.getfield 17, 3) := by decide +kernel
theorem dX1_keep_18 : decode kX1_keep.2.1 18 = .ok (.iconst 1, 1) := by decide +kernel
theorem dX1_keep_19 : decode kX1_keep.2.1 19 = .ok (.iadd, 1) := by decide +kernel
theorem dX1_keep_20 : decode kX1_keep.2.1 20 = .ok (.bipush 10, 2) := by decide +kernel
theorem dX1_keep_22 : decode kX1_keep.2.1 22 = .ok (.irem, 1) := by decide +kernel
theorem dX1_keep_23 : decode kX1_keep.2.1 23 = .ok (.putfield 17, 3) := by decide +kernel
theorem dX1_keep_26 : decode kX1_keep.2.1 26 = .ok (.aload_n 0, 1) := by decide +kernel
theorem dX1_keep_27 : decode kX1_keep.2.1 27 = .ok (.bipush 10, 2) := by decide +kernel
theorem dX1_keep_29 : decode kX1_keep.2.1 29 = .ok (.aload_n 0, 1) := by decide +kernel
theorem dX1_keep_30 : decode kX1_keep.2.1 30 = .ok (.getfield 21, 3) := by decide +kernel
theorem dX1_keep_33 : decode kX1_keep.2.1 33 = .ok (.iconst 1, 1) := by decide +kernel
theorem dX1_keep_34 : decode kX1_keep.2.1 34 = .ok (.iadd, 1) := by decide +kernel
theorem dX1_keep_35 : decode kX1_keep.2.1 35 = .ok (.invokestatic 29, 3) := by decide +kernel
theorem dX1_keep_38 : decode kX1_keep.2.1 38 = .ok (.putfield 21, 3) := by decide +kernel
theorem dX1_keep_41 : decode kX1_keep.2.1 41 = .ok (.return_, 1) := by decide +kernel
theorem dX1_goBack_0 : decode kX1_goBack.2.1 0 = .ok (.iload_n 1, 1) := by decide +kernel
theorem dX1_goBack_1 : decode kX1_goBack.2.1 1 = .ok (.iconst 1, 1) := by decide +kernel
theorem dX1_goBack_2 : decode kX1_goBack.2.1 2 = .ok (.if_icmp .lt 11, 3) := by decide +kernel
theorem dX1_goBack_5 : decode kX1_goBack.2.1 5 = .ok (.iload_n 1, 1) := by decide +kernel
theorem dX1_goBack_6 : decode kX1_goBack.2.1 6 = .ok (.aload_n 0, 1) := by decide +kernel
theorem dX1_goBack_7 : decode kX1_goBack.2.1 7 = .ok (.getfield 21, 3) := by decide +kernel
theorem dX1_goBack_10 : decode kX1_goBack.2.1 10 = .ok (.if_icmp .le 4, 3) := by decide +kernel
theorem dX1_goBack_13 : decode kX1_goBack.2.1 13 = .ok (.return_, 1) := by decide +kernel
theorem dX1_goBack_14 : decode kX1_goBack.2.1 14 = .ok (.aload_n 0, 1) := by decide +kernel
theorem dX1_goBack_15 : decode kX1_goBack.2.1 15 = .ok (.aload_n 0, 1) := by decide +kernel
theorem dX1_goBack_16 : decode kX1_goBack.2.1 16 = .ok (.getfield 17, 3) := by decide +kernel
theorem dX1_goBack_19 : decode kX1_goBack.2.1 19 = .ok (.bipush 10, 2) := by decide +kernel
theorem dX1_goBack_21 : decode kX1_goBack.2.1 21 = .ok (.iadd, 1) := by decide +kernel
theorem dX1_goBack_22 : decode kX1_goBack.2.1 22 = .ok (.iload_n 1, 1) := by decide +kernel
theorem dX1_goBack_23 : decode kX1_goBack.2.1 23 = .ok (.isub, 1) := by decide +kernel
theorem dX1_goBack_24 : decode kX1_goBack.2.1 24 = .ok (.bipush 10, 2) := by decide +kernel
theorem dX1_goBack_26 : decode kX1_goBack.2.1 26 = .ok (.irem, 1) := by decide +kernel
theorem dX1_goBack_27 : decode kX1_goBack.2.1 27 = .ok (.putfield 17, 3) := by decide +kernel
theorem dX1_goBack_30 : decode kX1_goBack.2.1 30 = .ok (.aload_n 0, 1) := by decide +kernel
theorem dX1_goBack_31 : decode kX1_goBack.2.1 31 = .ok (.dup, 1) := by decide +kernel
theorem dX1_goBack_32 : decode kX1_goBack.2.1 32 = .ok (.getfield 21, 3) := by decide +kernel
theorem dX1_goBack_35 : decode kX1_goBack.2.1 35 = .ok (.iload_n 1, 1) := by decide +kernel
theorem dX1_goBack_36 : decode kX1_goBack.2.1 36 = .ok (.isub, 1) := by decide +kernel
theorem dX1_goBack_37 : decode kX1_goBack.2.1 37 = .ok (.putfield 21, 3) := by decide +kernel
theorem dX1_goBack_40 : decode kX1_goBack.2.1 40 = .ok (.aload_n 2, 1) := by decide +kernel
theorem dX1_goBack_41 : decode kX1_goBack.2.1 41 = .ok (.aload_n 0, 1) := by decide +kernel
theorem dX1_goBack_42 : decode kX1_goBack.2.1 42 = .ok (.getfield 11, 3) := by decide +kernel
theorem dX1_goBack_45 : decode kX1_goBack.2.1 45 = .ok (.aload_n 0, 1) := by decide +kernel
theorem dX1_goBack_46 : decode kX1_goBack.2.1 46 = .ok (.getfield 17, 3) := by decide +kernel
theorem dX1_goBack_49 : decode kX1_goBack.2.1 49 = .ok (.aaload, 1) := by decide +kernel
theorem dX1_goBack_50 : decode kX1_goBack.2.1 50 = .ok (.invokevirtual 25, 3) := by decide +kernel
theorem dX1_goBack_53 : decode kX1_goBack.2.1 53 = .ok (.return_, 1) := by decide +kernel
theorem dX1_forget_0 : decode kX1_forget.2.1 0 = .ok (.aload_n 0, 1) := by decide +kernel
theorem dX1_forget_1 : decode kX1_forget.2.1 1 = .ok (.iconst 0, 1) := by decide +kernel
theorem dX1_forget_2 : decode kX1_forget.2.1 2 = .ok (.putfield 21, 3) := by decide +kernel
theorem dX1_forget_5 : decode kX1_forget.2.1 5 = .ok (.return_, 1) := by decide +kernel
theorem dX2_init_0 : decode kX2_init.2.1 0 = .ok (.aload_n 0, 1) := by decide +kernel
theorem dX2_init_1 : decode kX2_init.2.1 1 = .ok (.invokespecial 1, 3) := by decide +kernel
theorem dX2_init_4 : decode kX2_init.2.1 4 = .ok (.aload_n 0, 1) := by decide +kernel
theorem dX2_init_5 : decode kX2_init.2.1 5 = .ok (.aload_n 1, 1) := by decide +kernel
theorem dX2_init_6 : decode kX2_init.2.1 6 = .ok (.putfield 7, 3) := by decide +kernel
theorem dX2_init_9 : decode kX2_init.2.1 9 = .ok (.iconst 0, 1) := by decide +kernel
theorem dX2_init_10 : decode kX2_init.2.1 10 = .ok (.istore_n 2, 1) := by decide +kernel
theorem dX2_init_11 : decode kX2_init.2.1 11 = .ok (.iconst 0, 1) := by decide +kernel
theorem dX2_init_12 : decode kX2_init.2.1 12 = .ok (.istore_n 3, 1) := by decide +kernel
theorem dX2_init_13 : decode kX2_init.2.1 13 = .ok (.iload_n 3, 1) := by decide +kernel
theorem dX2_init_14 : decode kX2_init.2.1 14 = .ok (.aload_n 1, 1) := by decide +kernel
theorem dX2_init_15 : decode kX2_init.2.1 15 = .ok (.arraylength, 1) := by decide +kernel
theorem dX2_init_16 : decode kX2_init.2.1 16 = .ok (.if_icmp .ge 27, 3) := by decide +kernel
theorem dX2_init_19 : decode kX2_init.2.1 19 = .ok (.iload_n 2, 1) := by decide +kernel
theorem dX2_init_20 : decode kX2_init.2.1 20 = .ok (.ifCond .ne 11, 3) := by decide +kernel
theorem dX2_init_23 : decode kX2_init.2.1 23 = .ok (.aload_n 1, 1) := by decide +kernel
theorem dX2_init_24 : decode kX2_init.2.1 24 = .ok (.iload_n 3, 1) := by decide +kernel
theorem dX2_init_25 : decode kX2_init.2.1 25 = .ok (.iaload, 1) := by decide +kernel
theorem dX2_init_26 : decode kX2_init.2.1 26 = .ok (.bipush (-14), 2) := by decide +kernel
theorem dX2_init_28 : decode kX2_init.2.1 28 = .ok (.if_icmp .ne 7, 3) := by decide +kernel
theorem dX2_init_31 : decode kX2_init.2.1 31 = .ok (.iconst 1, 1) := by decide +kernel
theorem dX2_init_32 : decode kX2_init.2.1 32 = .ok (.goto 4, 3) := by decide +kernel
theorem dX2_init_35 : decode kX2_init.2.1 35 = .ok (.iconst 0, 1) := by decide +kernel
theorem dX2_init_36 : decode kX2_init.2.1 36 = .ok (.istore_n 2, 1) := by decide +kernel
theorem dX2_init_37 : decode kX2_init.2.1 37 = .ok (.iinc 3 1, 3) := by decide +kernel
theorem dX2_init_40 : decode kX2_init.2.1 40 = .ok (.goto (-27), 3) := by decide +kernel
theorem dX2_init_43 : decode kX2_init.2.1 43 = .ok (.aload_n 0, 1) := by decide +kernel
theorem dX2_init_44 : decode kX2_init.2.1 44 = .ok (.iload_n 2, 1) := by decide +kernel
theorem dX2_init_45 : decode kX2_init.2.1 45 = .ok (.putfield 13, 3) := by decide +kernel
theorem dX2_init_48 : decode kX2_init.2.1 48 = .ok (.return_, 1) := by decide +kernel
theorem dX2_tell_0 : decode kX2_tell.2.1 0 = .ok (.iconst 0, 1) := by decide +kernel
theorem dX2_tell_1 : decode kX2_tell.2.1 1 = .ok (.istore_n 3, 1) := by decide +kernel
theorem dX2_tell_2 : decode kX2_tell.2.1 2 = .ok (.iconst 0, 1) := by decide +kernel
theorem dX2_tell_3 : decode kX2_tell.2.1 3 = .ok (.istore 4, 2) := by decide +kernel
theorem dX2_tell_5 : decode kX2_tell.2.1 5 = .ok (.iload 4, 2) := by decide +kernel
theorem dX2_tell_7 : decode kX2_tell.2.1 7 = .ok (.aload_n 0, 1) := by decide +kernel
theorem dX2_tell_8 : decode kX2_tell.2.1 8 = .ok (.getfield 7, 3) := by decide +kernel
theorem dX2_tell_11 : decode kX2_tell.2.1 11 = .ok (.arraylength, 1) := by decide +kernel
theorem dX2_tell_12 : decode kX2_tell.2.1 12 = .ok (.if_icmp .ge 177, 3) := by decide +kernel
theorem dX2_tell_15 : decode kX2_tell.2.1 15 = .ok (.aload_n 0, 1) := by decide +kernel
theorem dX2_tell_16 : decode kX2_tell.2.1 16 = .ok (.getfield 7, 3) := by decide +kernel
theorem dX2_tell_19 : decode kX2_tell.2.1 19 = .ok (.iload 4, 2) := by decide +kernel
theorem dX2_tell_21 : decode kX2_tell.2.1 21 = .ok (.iaload, 1) := by decide +kernel
theorem dX2_tell_22 : decode kX2_tell.2.1 22 = .ok (.istore 5, 2) := by decide +kernel
theorem dX2_tell_24 : decode kX2_tell.2.1 24 = .ok (.iload 5, 2) := by decide +kernel
theorem dX2_tell_26 : decode kX2_tell.2.1 26 = .ok (.ifCond .ge 10, 3) := by decide +kernel
theorem dX2_tell_29 : decode kX2_tell.2.1 29 = .ok (.iload 5, 2) := by decide +kernel
theorem dX2_tell_31 : decode kX2_tell.2.1 31 = .ok (.bipush (-11), 2) := by decide +kernel
theorem dX2_tell_33 : decode kX2_tell.2.1 33 = .ok (.if_icmp .gt 37, 3) := by decide +kernel
theorem dX2_tell_36 : decode kX2_tell.2.1 36 = .ok (.iload_n 3, 1) := by decide +kernel
theorem dX2_tell_37 : decode kX2_tell.2.1 37 = .ok (.aload_n 2, 1) := by decide +kernel
theorem dX2_tell_38 : decode kX2_tell.2.1 38 = .ok (.arraylength, 1) := by decide +kernel
theorem dX2_tell_39 : decode kX2_tell.2.1 39 = .ok (.if_icmp .ge 144, 3) := by decide +kernel
theorem dX2_tell_42 : decode kX2_tell.2.1 42 = .ok (.aload_n 2, 1) := by decide +kernel
theorem dX2_tell_43 : decode kX2_tell.2.1 43 = .ok (.iload_n 3, 1) := by decide +kernel
theorem dX2_tell_44 : decode kX2_tell.2.1 44 = .ok (.iload 5, 2) := by decide +kernel
theorem dX2_tell_46 : decode kX2_tell.2.1 46 = .ok (.ifCond .lt 8, 3) := by decide +kernel
theorem dX2_tell_49 : decode kX2_tell.2.1 49 = .ok (.iload 5, 2) := by decide +kernel
theorem dX2_tell_51 : decode kX2_tell.2.1 51 = .ok (.goto 12, 3) := by decide +kernel
theorem dX2_tell_54 : decode kX2_tell.2.1 54 = .ok (.aload_n 1, 1) := by decide +kernel
theorem dX2_tell_55 : decode kX2_tell.2.1 55 = .ok (.bipush (-11), 2) := by decide +kernel
theorem dX2_tell_57 : decode kX2_tell.2.1 57 = .ok (.iload 5, 2) := by decide +kernel
theorem dX2_tell_59 : decode kX2_tell.2.1 59 = .ok (.isub, 1) := by decide +kernel
theorem dX2_tell_60 : decode kX2_tell.2.1 60 = .ok (.invokestatic 17, 3) := by decide +kernel
theorem dX2_tell_63 : decode kX2_tell.2.1 63 = .ok (.iastore, 1) := by decide +kernel
theorem dX2_tell_64 : decode kX2_tell.2.1 64 = .ok (.iinc 3 1, 3) := by decide +kernel
theorem dX2_tell_67 : decode kX2_tell.2.1 67 = .ok (.goto 116, 3) := by decide +kernel
theorem dX2_tell_70 : decode kX2_tell.2.1 70 = .ok (.iload 5, 2) := by decide +kernel
theorem dX2_tell_72 : decode kX2_tell.2.1 72 = .ok (.bipush (-9), 2) := by decide +kernel
theorem dX2_tell_74 : decode kX2_tell.2.1 74 = .ok (.if_icmp .ne 29, 3) := by decide +kernel
theorem dX2_tell_77 : decode kX2_tell.2.1 77 = .ok (.iload_n 3, 1) := by decide +kernel
theorem dX2_tell_78 : decode kX2_tell.2.1 78 = .ok (.iconst 1, 1) := by decide +kernel
theorem dX2_tell_79 : decode kX2_tell.2.1 79 = .ok (.if_icmp .lt 104, 3) := by decide +kernel
theorem dX2_tell_82 : decode kX2_tell.2.1 82 = .ok (.iload_n 3, 1) := by decide +kernel
theorem dX2_tell_83 : decode kX2_tell.2.1 83 = .ok (.aload_n 2, 1) := by decide +kernel
theorem dX2_tell_84 : decode kX2_tell.2.1 84 = .ok (.arraylength, 1) := by decide +kernel
theorem dX2_tell_85 : decode kX2_tell.2.1 85 = .ok (.if_icmp .gt 98, 3) := by decide +kernel
theorem dX2_tell_88 : decode kX2_tell.2.1 88 = .ok (.aload_n 2, 1) := by decide +kernel
theorem dX2_tell_89 : decode kX2_tell.2.1 89 = .ok (.iload_n 3, 1) := by decide +kernel
theorem dX2_tell_90 : decode kX2_tell.2.1 90 = .ok (.iconst 1, 1) := by decide +kernel
theorem dX2_tell_91 : decode kX2_tell.2.1 91 = .ok (.isub, 1) := by decide +kernel
theorem dX2_tell_92 : decode kX2_tell.2.1 92 = .ok (.iconst 1, 1) := by decide +kernel
theorem dX2_tell_93 : decode kX2_tell.2.1 93 = .ok (.aload_n 2, 1) := by decide +kernel
theorem dX2_tell_94 : decode kX2_tell.2.1 94 = .ok (.iload_n 3, 1) := by decide +kernel
theorem dX2_tell_95 : decode kX2_tell.2.1 95 = .ok (.iconst 1, 1) := by decide +kernel
theorem dX2_tell_96 : decode kX2_tell.2.1 96 = .ok (.isub, 1) := by decide +kernel
theorem dX2_tell_97 : decode kX2_tell.2.1 97 = .ok (.iaload, 1) := by decide +kernel
theorem dX2_tell_98 : decode kX2_tell.2.1 98 = .ok (.isub, 1) := by decide +kernel
theorem dX2_tell_99 : decode kX2_tell.2.1 99 = .ok (.iastore, 1) := by decide +kernel
theorem dX2_tell_100 : decode kX2_tell.2.1 100 = .ok (.goto 83, 3) := by decide +kernel
theorem dX2_tell_103 : decode kX2_tell.2.1 103 = .ok (.iload 5, 2) := by decide +kernel
theorem dX2_tell_105 : decode kX2_tell.2.1 105 = .ok (.bipush (-10), 2) := by decide +kernel
theorem dX2_tell_107 : decode kX2_tell.2.1 107 = .ok (.if_icmp .ne 44, 3) := by decide +kernel
theorem dX2_tell_110 : decode kX2_tell.2.1 110 = .ok (.iload_n 3, 1) := by decide +kernel
theorem dX2_tell_111 : decode kX2_tell.2.1 111 = .ok (.iconst 3, 1) := by decide +kernel
theorem dX2_tell_112 : decode kX2_tell.2.1 112 = .ok (.if_icmp .lt 71, 3) := by decide +kernel
theorem dX2_tell_115 : decode kX2_tell.2.1 115 = .ok (.iload_n 3, 1) := by decide +kernel
theorem dX2_tell_116 : decode kX2_tell.2.1 116 = .ok (.aload_n 2, 1) := by decide +kernel
theorem dX2_tell_117 : decode kX2_tell.2.1 117 = .ok (.arraylength, 1) := by decide +kernel
theorem dX2_tell_118 : decode kX2_tell.2.1 118 = .ok (.if_icmp .gt 65, 3) := by decide +kernel
theorem dX2_tell_121 : decode kX2_tell.2.1 121 = .ok (.iinc 3 (-2), 3) := by decide +kernel
theorem dX2_tell_124 : decode kX2_tell.2.1 124 = .ok (.aload_n 2, 1) := by decide +kernel
theorem dX2_tell_125 : decode kX2_tell.2.1 125 = .ok (.iload_n 3, 1) := by decide +kernel
theorem dX2_tell_126 : decode kX2_tell.2.1 126 = .ok (.iconst 1, 1) := by decide +kernel
theorem dX2_tell_127 : decode kX2_tell.2.1 127 = .ok (.isub, 1) := by decide +kernel
theorem dX2_tell_128 : decode kX2_tell.2.1 128 = .ok (.aload_n 2, 1) := by decide +kernel
theorem dX2_tell_129 : decode kX2_tell.2.1 129 = .ok (.iload_n 3, 1) := by decide +kernel
theorem dX2_tell_130 : decode kX2_tell.2.1 130 = .ok (.iconst 1, 1) := by decide +kernel
theorem dX2_tell_131 : decode kX2_tell.2.1 131 = .ok (.isub, 1) := by decide +kernel
theorem dX2_tell_132 : decode kX2_tell.2.1 132 = .ok (.iaload, 1) := by decide +kernel
theorem dX2_tell_133 : decode kX2_tell.2.1 133 = .ok (.ifCond .eq 9, 3) := by decide +kernel
theorem dX2_tell_136 : decode kX2_tell.2.1 136 = .ok (.aload_n 2, 1) := by decide +kernel
theorem dX2_tell_137 : decode kX2_tell.2.1 137 = .ok (.iload_n 3, 1) := by decide +kernel
theorem dX2_tell_138 : decode kX2_tell.2.1 138 = .ok (.iaload, 1) := by decide +kernel
theorem dX2_tell_139 : decode kX2_tell.2.1 139 = .ok (.goto 8, 3) := by decide +kernel
theorem dX2_tell_142 : decode kX2_tell.2.1 142 = .ok (.aload_n 2, 1) := by decide +kernel
theorem dX2_tell_143 : decode kX2_tell.2.1 143 = .ok (.iload_n 3, 1) := by decide +kernel
theorem dX2_tell_144 : decode kX2_tell.2.1 144 = .ok (.iconst 1, 1) := by decide +kernel
theorem dX2_tell_145 : decode kX2_tell.2.1 145 = .ok (.iadd, 1) := by decide +kernel
theorem dX2_tell_146 : decode kX2_tell.2.1 146 = .ok (.iaload, 1) := by decide +kernel
theorem dX2_tell_147 : decode kX2_tell.2.1 147 = .ok (.iastore, 1) := by decide +kernel
theorem dX2_tell_148 : decode kX2_tell.2.1 148 = .ok (.goto 35, 3) := by decide +kernel
theorem dX2_tell_151 : decode kX2_tell.2.1 151 = .ok (.iload_n 3, 1) := by decide +kernel
theorem dX2_tell_152 : decode kX2_tell.2.1 152 = .ok (.iconst 2, 1) := by decide +kernel
theorem dX2_tell_153 : decode kX2_tell.2.1 153 = .ok (.if_icmp .lt 30, 3) := by decide +kernel
theorem dX2_tell_156 : decode kX2_tell.2.1 156 = .ok (.iload_n 3, 1) := by decide +kernel
theorem dX2_tell_157 : decode kX2_tell.2.1 157 = .ok (.aload_n 2, 1) := by decide +kernel
theorem dX2_tell_158 : decode kX2_tell.2.1 158 = .ok (.arraylength, 1) := by decide +kernel
theorem dX2_tell_159 : decode kX2_tell.2.1 159 = .ok (.if_icmp .gt 24, 3) := by decide +kernel
theorem dX2_tell_162 : decode kX2_tell.2.1 162 = .ok (.iinc 3 (-1), 3) := by decide +kernel
theorem dX2_tell_165 : decode kX2_tell.2.1 165 = .ok (.aload_n 2, 1) := by decide +kernel
theorem dX2_tell_166 : decode kX2_tell.2.1 166 = .ok (.iload_n 3, 1) := by decide +kernel
theorem dX2_tell_167 : decode kX2_tell.2.1 167 = .ok (.iconst 1, 1) := by decide +kernel
theorem dX2_tell_168 : decode kX2_tell.2.1 168 = .ok (.isub, 1) := by decide +kernel
theorem dX2_tell_169 : decode kX2_tell.2.1 169 = .ok (.iload 5, 2) := by decide +kernel
theorem dX2_tell_171 : decode kX2_tell.2.1 171 = .ok (.aload_n 2, 1) := by decide +kernel
theorem dX2_tell_172 : decode kX2_tell.2.1 172 = .ok (.iload_n 3, 1) := by decide +kernel
theorem dX2_tell_173 : decode kX2_tell.2.1 173 = .ok (.iconst 1, 1) := by decide +kernel
theorem dX2_tell_174 : decode kX2_tell.2.1 174 = .ok (.isub, 1) := by decide +kernel
theorem dX2_tell_175 : decode kX2_tell.2.1 175 = .ok (.iaload, 1) := by decide +kernel
theorem dX2_tell_176 : decode kX2_tell.2.1 176 = .ok (.aload_n 2, 1) := by decide +kernel
theorem dX2_tell_177 : decode kX2_tell.2.1 177 = .ok (.iload_n 3, 1) := by decide +kernel
theorem dX2_tell_178 : decode kX2_tell.2.1 178 = .ok (.iaload, 1) := by decide +kernel
theorem dX2_tell_179 : decode kX2_tell.2.1 179 = .ok (.invokestatic 21, 3) := by decide +kernel
theorem dX2_tell_182 : decode kX2_tell.2.1 182 = .ok (.iastore, 1) := by decide +kernel
theorem dX2_tell_183 : decode kX2_tell.2.1 183 = .ok (.iinc 4 1, 3) := by decide +kernel
theorem dX2_tell_186 : decode kX2_tell.2.1 186 = .ok (.goto (-181), 3) := by decide +kernel
theorem dX2_tell_189 : decode kX2_tell.2.1 189 = .ok (.iload_n 3, 1) := by decide +kernel
theorem dX2_tell_190 : decode kX2_tell.2.1 190 = .ok (.ifCond .le 14, 3) := by decide +kernel
theorem dX2_tell_193 : decode kX2_tell.2.1 193 = .ok (.aload_n 2, 1) := by decide +kernel
theorem dX2_tell_194 : decode kX2_tell.2.1 194 = .ok (.arraylength, 1) := by decide +kernel
theorem dX2_tell_195 : decode kX2_tell.2.1 195 = .ok (.ifCond .le 9, 3) := by decide +kernel
theorem dX2_tell_198 : decode kX2_tell.2.1 198 = .ok (.aload_n 2, 1) := by decide +kernel
theorem dX2_tell_199 : decode kX2_tell.2.1 199 = .ok (.iconst 0, 1) := by decide +kernel
theorem dX2_tell_200 : decode kX2_tell.2.1 200 = .ok (.iaload, 1) := by decide +kernel
theorem dX2_tell_201 : decode kX2_tell.2.1 201 = .ok (.goto 4, 3) := by decide +kernel
theorem dX2_tell_204 : decode kX2_tell.2.1 204 = .ok (.iconst 0, 1) := by decide +kernel
theorem dX2_tell_205 : decode kX2_tell.2.1 205 = .ok (.ireturn, 1) := by decide +kernel
theorem dX2_wordAt_0 : decode kX2_wordAt.2.1 0 = .ok (.iload_n 1, 1) := by decide +kernel
theorem dX2_wordAt_1 : decode kX2_wordAt.2.1 1 = .ok (.ifCond .lt 15, 3) := by decide +kernel
theorem dX2_wordAt_4 : decode kX2_wordAt.2.1 4 = .ok (.iload_n 1, 1) := by decide +kernel
theorem dX2_wordAt_5 : decode kX2_wordAt.2.1 5 = .ok (.aload_n 0, 1) := by decide +kernel
theorem dX2_wordAt_6 : decode kX2_wordAt.2.1 6 = .ok (.arraylength, 1) := by decide +kernel
theorem dX2_wordAt_7 : decode kX2_wordAt.2.1 7 = .ok (.if_icmp .ge 9, 3) := by decide +kernel
theorem dX2_wordAt_10 : decode kX2_wordAt.2.1 10 = .ok (.aload_n 0, 1) := by decide +kernel
theorem dX2_wordAt_11 : decode kX2_wordAt.2.1 11 = .ok (.iload_n 1, 1) := by decide +kernel
theorem dX2_wordAt_12 : decode kX2_wordAt.2.1 12 = .ok (.iaload, 1) := by decide +kernel
theorem dX2_wordAt_13 : decode kX2_wordAt.2.1 13 = .ok (.goto 4, 3) := by decide +kernel
theorem dX2_wordAt_16 : decode kX2_wordAt.2.1 16 = .ok (.iconst 0, 1) := by decide +kernel
theorem dX2_wordAt_17 : decode kX2_wordAt.2.1 17 = .ok (.ireturn, 1) := by decide +kernel
theorem dX2_join_0 : decode kX2_join.2.1 0 = .ok (.iload_n 0, 1) := by decide +kernel
theorem dX2_join_1 : decode kX2_join.2.1 1 = .ok (.tableswitch 76 (-8) (-4) #[72, 68, 57, 46, 35], 35) := by decide +kernel
theorem dX2_join_36 : decode kX2_join.2.1 36 = .ok (.iload_n 1, 1) := by decide +kernel
theorem dX2_join_37 : decode kX2_join.2.1 37 = .ok (.iload_n 2, 1) := by decide +kernel
theorem dX2_join_38 : decode kX2_join.2.1 38 = .ok (.if_icmp .ne 7, 3) := by decide +kernel
theorem dX2_join_41 : decode kX2_join.2.1 41 = .ok (.iconst 1, 1) := by decide +kernel
theorem dX2_join_42 : decode kX2_join.2.1 42 = .ok (.goto 4, 3) := by decide +kernel
theorem dX2_join_45 : decode kX2_join.2.1 45 = .ok (.iconst 0, 1) := by decide +kernel
theorem dX2_join_46 : decode kX2_join.2.1 46 = .ok (.ireturn, 1) := by decide +kernel
theorem dX2_join_47 : decode kX2_join.2.1 47 = .ok (.iload_n 1, 1) := by decide +kernel
theorem dX2_join_48 : decode kX2_join.2.1 48 = .ok (.iload_n 2, 1) := by decide +kernel
theorem dX2_join_49 : decode kX2_join.2.1 49 = .ok (.if_icmp .ge 7, 3) := by decide +kernel
theorem dX2_join_52 : decode kX2_join.2.1 52 = .ok (.iconst 1, 1) := by decide +kernel
theorem dX2_join_53 : decode kX2_join.2.1 53 = .ok (.goto 4, 3) := by decide +kernel
theorem dX2_join_56 : decode kX2_join.2.1 56 = .ok (.iconst 0, 1) := by decide +kernel
theorem dX2_join_57 : decode kX2_join.2.1 57 = .ok (.ireturn, 1) := by decide +kernel
theorem dX2_join_58 : decode kX2_join.2.1 58 = .ok (.iload_n 1, 1) := by decide +kernel
theorem dX2_join_59 : decode kX2_join.2.1 59 = .ok (.iload_n 2, 1) := by decide +kernel
theorem dX2_join_60 : decode kX2_join.2.1 60 = .ok (.if_icmp .le 7, 3) := by decide +kernel
theorem dX2_join_63 : decode kX2_join.2.1 63 = .ok (.iconst 1, 1) := by decide +kernel
theorem dX2_join_64 : decode kX2_join.2.1 64 = .ok (.goto 4, 3) := by decide +kernel
theorem dX2_join_67 : decode kX2_join.2.1 67 = .ok (.iconst 0, 1) := by decide +kernel
theorem dX2_join_68 : decode kX2_join.2.1 68 = .ok (.ireturn, 1) := by decide +kernel
theorem dX2_join_69 : decode kX2_join.2.1 69 = .ok (.iload_n 1, 1) := by decide +kernel
theorem dX2_join_70 : decode kX2_join.2.1 70 = .ok (.iload_n 2, 1) := by decide +kernel
theorem dX2_join_71 : decode kX2_join.2.1 71 = .ok (.iand, 1) := by decide +kernel
theorem dX2_join_72 : decode kX2_join.2.1 72 = .ok (.ireturn, 1) := by decide +kernel
theorem dX2_join_73 : decode kX2_join.2.1 73 = .ok (.iload_n 1, 1) := by decide +kernel
theorem dX2_join_74 : decode kX2_join.2.1 74 = .ok (.iload_n 2, 1) := by decide +kernel
theorem dX2_join_75 : decode kX2_join.2.1 75 = .ok (.ior, 1) := by decide +kernel
theorem dX2_join_76 : decode kX2_join.2.1 76 = .ok (.ireturn, 1) := by decide +kernel
theorem dX2_join_77 : decode kX2_join.2.1 77 = .ok (.iload_n 0, 1) := by decide +kernel
theorem dX2_join_78 : decode kX2_join.2.1 78 = .ok (.iconst (-1), 1) := by decide +kernel
theorem dX2_join_79 : decode kX2_join.2.1 79 = .ok (.if_icmp .ne 11, 3) := by decide +kernel
theorem dX2_join_82 : decode kX2_join.2.1 82 = .ok (.iload_n 1, 1) := by decide +kernel
theorem dX2_join_83 : decode kX2_join.2.1 83 = .ok (.i2l, 1) := by decide +kernel
theorem dX2_join_84 : decode kX2_join.2.1 84 = .ok (.iload_n 2, 1) := by decide +kernel
theorem dX2_join_85 : decode kX2_join.2.1 85 = .ok (.i2l, 1) := by decide +kernel
theorem dX2_join_86 : decode kX2_join.2.1 86 = .ok (.ladd, 1) := by decide +kernel
theorem dX2_join_87 : decode kX2_join.2.1 87 = .ok (.goto 22, 3) := by decide +kernel
theorem dX2_join_90 : decode kX2_join.2.1 90 = .ok (.iload_n 0, 1) := by decide +kernel
theorem dX2_join_91 : decode kX2_join.2.1 91 = .ok (.bipush (-2), 2) := by decide +kernel
theorem dX2_join_93 : decode kX2_join.2.1 93 = .ok (.if_icmp .ne 11, 3) := by decide +kernel
theorem dX2_join_96 : decode kX2_join.2.1 96 = .ok (.iload_n 1, 1) := by decide +kernel
theorem dX2_join_97 : decode kX2_join.2.1 97 = .ok (.i2l, 1) := by decide +kernel
theorem dX2_join_98 : decode kX2_join.2.1 98 = .ok (.iload_n 2, 1) := by decide +kernel
theorem dX2_join_99 : decode kX2_join.2.1 99 = .ok (.i2l, 1) := by decide +kernel
theorem dX2_join_100 : decode kX2_join.2.1 100 = .ok (.lsub, 1) := by decide +kernel
theorem dX2_join_101 : decode kX2_join.2.1 101 = .ok (.goto 8, 3) := by decide +kernel
theorem dX2_join_104 : decode kX2_join.2.1 104 = .ok (.iload_n 1, 1) := by decide +kernel
theorem dX2_join_105 : decode kX2_join.2.1 105 = .ok (.i2l, 1) := by decide +kernel
theorem dX2_join_106 : decode kX2_join.2.1 106 = .ok (.iload_n 2, 1) := by decide +kernel
theorem dX2_join_107 : decode kX2_join.2.1 107 = .ok (.i2l, 1) := by decide +kernel
theorem dX2_join_108 : decode kX2_join.2.1 108 = .ok (.lmul, 1) := by decide +kernel
theorem dX2_join_109 : decode kX2_join.2.1 109 = .ok (.lstore_n 3, 1) := by decide +kernel
theorem dX2_join_110 : decode kX2_join.2.1 110 = .ok (.lload_n 3, 1) := by decide +kernel
theorem dX2_join_111 : decode kX2_join.2.1 111 = .ok (.ldc2_w 25, 3) := by decide +kernel
theorem dX2_join_114 : decode kX2_join.2.1 114 = .ok (.lcmp, 1) := by decide +kernel
theorem dX2_join_115 : decode kX2_join.2.1 115 = .ok (.ifCond .le 8, 3) := by decide +kernel
theorem dX2_join_118 : decode kX2_join.2.1 118 = .ok (.ldc 27, 2) := by decide +kernel
theorem dX2_join_120 : decode kX2_join.2.1 120 = .ok (.goto 18, 3) := by decide +kernel
theorem dX2_join_123 : decode kX2_join.2.1 123 = .ok (.lload_n 3, 1) := by decide +kernel
theorem dX2_join_124 : decode kX2_join.2.1 124 = .ok (.ldc2_w 28, 3) := by decide +kernel
theorem dX2_join_127 : decode kX2_join.2.1 127 = .ok (.lcmp, 1) := by decide +kernel
theorem dX2_join_128 : decode kX2_join.2.1 128 = .ok (.ifCond .ge 8, 3) := by decide +kernel
theorem dX2_join_131 : decode kX2_join.2.1 131 = .ok (.ldc 30, 2) := by decide +kernel
theorem dX2_join_133 : decode kX2_join.2.1 133 = .ok (.goto 5, 3) := by decide +kernel
theorem dX2_join_136 : decode kX2_join.2.1 136 = .ok (.lload_n 3, 1) := by decide +kernel
theorem dX2_join_137 : decode kX2_join.2.1 137 = .ok (.l2i, 1) := by decide +kernel
theorem dX2_join_138 : decode kX2_join.2.1 138 = .ok (.ireturn, 1) := by decide +kernel
theorem dX3_init_0 : decode kX3_init.2.1 0 = .ok (.aload_n 0, 1) := by decide +kernel
theorem dX3_init_1 : decode kX3_init.2.1 1 = .ok (.invokespecial 3, 3) := by decide +kernel
theorem dX3_init_4 : decode kX3_init.2.1 4 = .ok (.aload_n 0, 1) := by decide +kernel
theorem dX3_init_5 : decode kX3_init.2.1 5 = .ok (.sipush 1189, 3) := by decide +kernel
theorem dX3_init_8 : decode kX3_init.2.1 8 = .ok (.newarray .int, 2) := by decide +kernel
theorem dX3_init_10 : decode kX3_init.2.1 10 = .ok (.putfield 11, 3) := by decide +kernel
theorem dX3_init_13 : decode kX3_init.2.1 13 = .ok (.aload_n 0, 1) := by decide +kernel
theorem dX3_init_14 : decode kX3_init.2.1 14 = .ok (.sipush 1189, 3) := by decide +kernel
theorem dX3_init_17 : decode kX3_init.2.1 17 = .ok (.newarray .int, 2) := by decide +kernel
theorem dX3_init_19 : decode kX3_init.2.1 19 = .ok (.putfield 15, 3) := by decide +kernel
theorem dX3_init_22 : decode kX3_init.2.1 22 = .ok (.aload_n 0, 1) := by decide +kernel
theorem dX3_init_23 : decode kX3_init.2.1 23 = .ok (.bipush 10, 2) := by decide +kernel
theorem dX3_init_25 : decode kX3_init.2.1 25 = .ok (.newarray .int, 2) := by decide +kernel
theorem dX3_init_27 : decode kX3_init.2.1 27 = .ok (.putfield 18, 3) := by decide +kernel
theorem dX3_init_30 : decode kX3_init.2.1 30 = .ok (.aload_n 0, 1) := by decide +kernel
theorem dX3_init_31 : decode kX3_init.2.1 31 = .ok (.lconst 1, 1) := by decide +kernel
theorem dX3_init_32 : decode kX3_init.2.1 32 = .ok (.putfield 21, 3) := by decide +kernel
theorem dX3_init_35 : decode kX3_init.2.1 35 = .ok (.return_, 1) := by decide +kernel
theorem dX3_begin_0 : decode kX3_begin.2.1 0 = .ok (.aload_n 0, 1) := by decide +kernel
theorem dX3_begin_1 : decode kX3_begin.2.1 1 = .ok (.getfield 11, 3) := by decide +kernel
theorem dX3_begin_4 : decode kX3_begin.2.1 4 = .ok (.iconst 0, 1) := by decide +kernel
theorem dX3_begin_5 : decode kX3_begin.2.1 5 = .ok (.invokestatic 25, 3) := by decide +kernel
theorem dX3_begin_8 : decode kX3_begin.2.1 8 = .ok (.aload_n 0, 1) := by decide +kernel
theorem dX3_begin_9 : decode kX3_begin.2.1 9 = .ok (.getfield 11, 3) := by decide +kernel
theorem dX3_begin_12 : decode kX3_begin.2.1 12 = .ok (.sipush 594, 3) := by decide +kernel
theorem dX3_begin_15 : decode kX3_begin.2.1 15 = .ok (.iconst 1, 1) := by decide +kernel
theorem dX3_begin_16 : decode kX3_begin.2.1 16 = .ok (.iastore, 1) := by decide +kernel
theorem dX3_begin_17 : decode kX3_begin.2.1 17 = .ok (.aload_n 0, 1) := by decide +kernel
theorem dX3_begin_18 : decode kX3_begin.2.1 18 = .ok (.lconst 1, 1) := by decide +kernel
theorem dX3_begin_19 : decode kX3_begin.2.1 19 = .ok (.putfield 21, 3) := by decide +kernel
theorem dX3_begin_22 : decode kX3_begin.2.1 22 = .ok (.return_, 1) := by decide +kernel
theorem dX3_tell_0 : decode kX3_tell.2.1 0 = .ok (.iload_n 1, 1) := by decide +kernel
theorem dX3_tell_1 : decode kX3_tell.2.1 1 = .ok (.i2l, 1) := by decide +kernel
theorem dX3_tell_2 : decode kX3_tell.2.1 2 = .ok (.invokestatic 31, 3) := by decide +kernel
theorem dX3_tell_5 : decode kX3_tell.2.1 5 = .ok (.ifCond .eq 10, 3) := by decide +kernel
theorem dX3_tell_8 : decode kX3_tell.2.1 8 = .ok (.aload_n 0, 1) := by decide +kernel
theorem dX3_tell_9 : decode kX3_tell.2.1 9 = .ok (.getfield 18, 3) := by decide +kernel
theorem dX3_tell_12 : decode kX3_tell.2.1 12 = .ok (.iload_n 1, 1) := by decide +kernel
theorem dX3_tell_13 : decode kX3_tell.2.1 13 = .ok (.iload_n 2, 1) := by decide +kernel
theorem dX3_tell_14 : decode kX3_tell.2.1 14 = .ok (.iastore, 1) := by decide +kernel
theorem dX3_tell_15 : decode kX3_tell.2.1 15 = .ok (.return_, 1) := by decide +kernel
theorem dX3_addShot_0 : decode kX3_addShot.2.1 0 = .ok (.aload_n 0, 1) := by decide +kernel
theorem dX3_addShot_1 : decode kX3_addShot.2.1 1 = .ok (.getfield 15, 3) := by decide +kernel
theorem dX3_addShot_4 : decode kX3_addShot.2.1 4 = .ok (.iconst 0, 1) := by decide +kernel
theorem dX3_addShot_5 : decode kX3_addShot.2.1 5 = .ok (.invokestatic 25, 3) := by decide +kernel
theorem dX3_addShot_8 : decode kX3_addShot.2.1 8 = .ok (.iconst 0, 1) := by decide +kernel
theorem dX3_addShot_9 : decode kX3_addShot.2.1 9 = .ok (.istore_n 1, 1) := by decide +kernel
theorem dX3_addShot_10 : decode kX3_addShot.2.1 10 = .ok (.iload_n 1, 1) := by decide +kernel
theorem dX3_addShot_11 : decode kX3_addShot.2.1 11 = .ok (.aload_n 0, 1) := by decide +kernel
theorem dX3_addShot_12 : decode kX3_addShot.2.1 12 = .ok (.getfield 11, 3) := by decide +kernel
theorem dX3_addShot_15 : decode kX3_addShot.2.1 15 = .ok (.arraylength, 1) := by decide +kernel
theorem dX3_addShot_16 : decode kX3_addShot.2.1 16 = .ok (.if_icmp .ge 29, 3) := by decide +kernel
theorem dX3_addShot_19 : decode kX3_addShot.2.1 19 = .ok (.aload_n 0, 1) := by decide +kernel
theorem dX3_addShot_20 : decode kX3_addShot.2.1 20 = .ok (.getfield 11, 3) := by decide +kernel
theorem dX3_addShot_23 : decode kX3_addShot.2.1 23 = .ok (.iload_n 1, 1) := by decide +kernel
theorem dX3_addShot_24 : decode kX3_addShot.2.1 24 = .ok (.iaload, 1) := by decide +kernel
theorem dX3_addShot_25 : decode kX3_addShot.2.1 25 = .ok (.ifCond .eq 14, 3) := by decide +kernel
theorem dX3_addShot_28 : decode kX3_addShot.2.1 28 = .ok (.aload_n 0, 1) := by decide +kernel
theorem dX3_addShot_29 : decode kX3_addShot.2.1 29 = .ok (.iload_n 1, 1) := by decide +kernel
theorem dX3_addShot_30 : decode kX3_addShot.2.1 30 = .ok (.aload_n 0, 1) := by decide +kernel
theorem dX3_addShot_31 : decode kX3_addShot.2.1 31 = .ok (.getfield 11, 3) := by decide +kernel
theorem dX3_addShot_34 : decode kX3_addShot.2.1 34 = .ok (.iload_n 1, 1) := by decide +kernel
theorem dX3_addShot_35 : decode kX3_addShot.2.1 35 = .ok (.iaload, 1) := by decide +kernel
theorem dX3_addShot_36 : decode kX3_addShot.2.1 36 = .ok (.invokevirtual 35, 3) := by decide +kernel
theorem dX3_addShot_39 : decode kX3_addShot.2.1 39 = .ok (.iinc 1 1, 3) := by decide +kernel
theorem dX3_addShot_42 : decode kX3_addShot.2.1 42 = .ok (.goto (-32), 3) := by decide +kernel
theorem dX3_addShot_45 : decode kX3_addShot.2.1 45 = .ok (.aload_n 0, 1) := by decide +kernel
theorem dX3_addShot_46 : decode kX3_addShot.2.1 46 = .ok (.getfield 11, 3) := by decide +kernel
theorem dX3_addShot_49 : decode kX3_addShot.2.1 49 = .ok (.astore_n 1, 1) := by decide +kernel
theorem dX3_addShot_50 : decode kX3_addShot.2.1 50 = .ok (.aload_n 0, 1) := by decide +kernel
theorem dX3_addShot_51 : decode kX3_addShot.2.1 51 = .ok (.aload_n 0, 1) := by decide +kernel
theorem dX3_addShot_52 : decode kX3_addShot.2.1 52 = .ok (.getfield 15, 3) := by decide +kernel
theorem dX3_addShot_55 : decode kX3_addShot.2.1 55 = .ok (.putfield 11, 3) := by decide +kernel
theorem dX3_addShot_58 : decode kX3_addShot.2.1 58 = .ok (.aload_n 0, 1) := by decide +kernel
theorem dX3_addShot_59 : decode kX3_addShot.2.1 59 = .ok (.aload_n 1, 1) := by decide +kernel
theorem dX3_addShot_60 : decode kX3_addShot.2.1 60 = .ok (.putfield 15, 3) := by decide +kernel
theorem dX3_addShot_63 : decode kX3_addShot.2.1 63 = .ok (.aload_n 0, 1) := by decide +kernel
theorem dX3_addShot_64 : decode kX3_addShot.2.1 64 = .ok (.dup, 1) := by decide +kernel
theorem dX3_addShot_65 : decode kX3_addShot.2.1 65 = .ok (.getfield 21, 3) := by decide +kernel
theorem dX3_addShot_68 : decode kX3_addShot.2.1 68 = .ok (.ldc2_w 39, 3) := by decide +kernel
theorem dX3_addShot_71 : decode kX3_addShot.2.1 71 = .ok (.lmul, 1) := by decide +kernel
theorem dX3_addShot_72 : decode kX3_addShot.2.1 72 = .ok (.putfield 21, 3) := by decide +kernel
theorem dX3_addShot_75 : decode kX3_addShot.2.1 75 = .ok (.return_, 1) := by decide +kernel
theorem dX3_spread_0 : decode kX3_spread.2.1 0 = .ok (.iconst 0, 1) := by decide +kernel
theorem dX3_spread_1 : decode kX3_spread.2.1 1 = .ok (.istore_n 3, 1) := by decide +kernel
theorem dX3_spread_2 : decode kX3_spread.2.1 2 = .ok (.iload_n 3, 1) := by decide +kernel
theorem dX3_spread_3 : decode kX3_spread.2.1 3 = .ok (.bipush 10, 2) := by decide +kernel
theorem dX3_spread_5 : decode kX3_spread.2.1 5 = .ok (.if_icmp .ge 45, 3) := by decide +kernel
theorem dX3_spread_8 : decode kX3_spread.2.1 8 = .ok (.iload_n 1, 1) := by decide +kernel
theorem dX3_spread_9 : decode kX3_spread.2.1 9 = .ok (.aload_n 0, 1) := by decide +kernel
theorem dX3_spread_10 : decode kX3_spread.2.1 10 = .ok (.getfield 18, 3) := by decide +kernel
theorem dX3_spread_13 : decode kX3_spread.2.1 13 = .ok (.iload_n 3, 1) := by decide +kernel
theorem dX3_spread_14 : decode kX3_spread.2.1 14 = .ok (.iaload, 1) := by decide +kernel
theorem dX3_spread_15 : decode kX3_spread.2.1 15 = .ok (.iadd, 1) := by decide +kernel
theorem dX3_spread_16 : decode kX3_spread.2.1 16 = .ok (.istore 4, 2) := by decide +kernel
theorem dX3_spread_18 : decode kX3_spread.2.1 18 = .ok (.iload 4, 2) := by decide +kernel
theorem dX3_spread_20 : decode kX3_spread.2.1 20 = .ok (.ifCond .lt 24, 3) := by decide +kernel
theorem dX3_spread_23 : decode kX3_spread.2.1 23 = .ok (.iload 4, 2) := by decide +kernel
theorem dX3_spread_25 : decode kX3_spread.2.1 25 = .ok (.aload_n 0, 1) := by decide +kernel
theorem dX3_spread_26 : decode kX3_spread.2.1 26 = .ok (.getfield 15, 3) := by decide +kernel
theorem dX3_spread_29 : decode kX3_spread.2.1 29 = .ok (.arraylength, 1) := by decide +kernel
theorem dX3_spread_30 : decode kX3_spread.2.1 30 = .ok (.if_icmp .ge 14, 3) := by decide +kernel
theorem dX3_spread_33 : decode kX3_spread.2.1 33 = .ok (.aload_n 0, 1) := by decide +kernel
theorem dX3_spread_34 : decode kX3_spread.2.1 34 = .ok (.getfield 15, 3) := by decide +kernel
theorem dX3_spread_37 : decode kX3_spread.2.1 37 = .ok (.iload 4, 2) := by decide +kernel
theorem dX3_spread_39 : decode kX3_spread.2.1 39 = .ok (.dup2, 1) := by decide +kernel
theorem dX3_spread_40 : decode kX3_spread.2.1 40 = .ok (.iaload, 1) := by decide +kernel
theorem dX3_spread_41 : decode kX3_spread.2.1 41 = .ok (.iload_n 2, 1) := by decide +kernel
theorem dX3_spread_42 : decode kX3_spread.2.1 42 = .ok (.iadd, 1) := by decide +kernel
theorem dX3_spread_43 : decode kX3_spread.2.1 43 = .ok (.iastore, 1) := by decide +kernel
theorem dX3_spread_44 : decode kX3_spread.2.1 44 = .ok (.iinc 3 1, 3) := by decide +kernel
theorem dX3_spread_47 : decode kX3_spread.2.1 47 = .ok (.goto (-45), 3) := by decide +kernel
theorem dX3_spread_50 : decode kX3_spread.2.1 50 = .ok (.return_, 1) := by decide +kernel
theorem dX3_won_0 : decode kX3_won.2.1 0 = .ok (.lconst 0, 1) := by decide +kernel
theorem dX3_won_1 : decode kX3_won.2.1 1 = .ok (.lstore_n 1, 1) := by decide +kernel
theorem dX3_won_2 : decode kX3_won.2.1 2 = .ok (.sipush 595, 3) := by decide +kernel
theorem dX3_won_5 : decode kX3_won.2.1 5 = .ok (.istore_n 3, 1) := by decide +kernel
theorem dX3_won_6 : decode kX3_won.2.1 6 = .ok (.iload_n 3, 1) := by decide +kernel
theorem dX3_won_7 : decode kX3_won.2.1 7 = .ok (.aload_n 0, 1) := by decide +kernel
theorem dX3_won_8 : decode kX3_won.2.1 8 = .ok (.getfield 11, 3) := by decide +kernel
theorem dX3_won_11 : decode kX3_won.2.1 11 = .ok (.arraylength, 1) := by decide +kernel
theorem dX3_won_12 : decode kX3_won.2.1 12 = .ok (.if_icmp .ge 19, 3) := by decide +kernel
theorem dX3_won_15 : decode kX3_won.2.1 15 = .ok (.lload_n 1, 1) := by decide +kernel
theorem dX3_won_16 : decode kX3_won.2.1 16 = .ok (.aload_n 0, 1) := by decide +kernel
theorem dX3_won_17 : decode kX3_won.2.1 17 = .ok (.getfield 11, 3) := by decide +kernel
theorem dX3_won_20 : decode kX3_won.2.1 20 = .ok (.iload_n 3, 1) := by decide +kernel
theorem dX3_won_21 : decode kX3_won.2.1 21 = .ok (.iaload, 1) := by decide +kernel
theorem dX3_won_22 : decode kX3_won.2.1 22 = .ok (.i2l, 1) := by decide +kernel
theorem dX3_won_23 : decode kX3_won.2.1 23 = .ok (.ladd, 1) := by decide +kernel
theorem dX3_won_24 : decode kX3_won.2.1 24 = .ok (.lstore_n 1, 1) := by decide +kernel
theorem dX3_won_25 : decode kX3_won.2.1 25 = .ok (.iinc 3 1, 3) := by decide +kernel
theorem dX3_won_28 : decode kX3_won.2.1 28 = .ok (.goto (-22), 3) := by decide +kernel
theorem dX3_won_31 : decode kX3_won.2.1 31 = .ok (.lload_n 1, 1) := by decide +kernel
theorem dX3_won_32 : decode kX3_won.2.1 32 = .ok (.lreturn, 1) := by decide +kernel
theorem dX4_init_0 : decode kX4_init.2.1 0 = .ok (.aload_n 0, 1) := by decide +kernel
theorem dX4_init_1 : decode kX4_init.2.1 1 = .ok (.invokespecial 3, 3) := by decide +kernel
theorem dX4_init_4 : decode kX4_init.2.1 4 = .ok (.aload_n 0, 1) := by decide +kernel
theorem dX4_init_5 : decode kX4_init.2.1 5 = .ok (.bipush 7, 2) := by decide +kernel
theorem dX4_init_7 : decode kX4_init.2.1 7 = .ok (.newarray .int, 2) := by decide +kernel
theorem dX4_init_9 : decode kX4_init.2.1 9 = .ok (.putfield 11, 3) := by decide +kernel
theorem dX4_init_12 : decode kX4_init.2.1 12 = .ok (.aload_n 0, 1) := by decide +kernel
theorem dX4_init_13 : decode kX4_init.2.1 13 = .ok (.bipush 64, 2) := by decide +kernel
theorem dX4_init_15 : decode kX4_init.2.1 15 = .ok (.newarray .int, 2) := by decide +kernel
theorem dX4_init_17 : decode kX4_init.2.1 17 = .ok (.putfield 17, 3) := by decide +kernel
theorem dX4_init_20 : decode kX4_init.2.1 20 = .ok (.return_, 1) := by decide +kernel
theorem dX4_stray_0 : decode kX4_stray.2.1 0 = .ok (.aload_n 1, 1) := by decide +kernel
theorem dX4_stray_1 : decode kX4_stray.2.1 1 = .ok (.getfield 20, 3) := by decide +kernel
theorem dX4_stray_4 : decode kX4_stray.2.1 4 = .ok (.ifnonnull 15, 3) := by decide +kernel
theorem dX4_stray_7 : decode kX4_stray.2.1 7 = .ok (.iload 6, 2) := by decide +kernel
theorem dX4_stray_9 : decode kX4_stray.2.1 9 = .ok (.iconst 5, 1) := by decide +kernel
theorem dX4_stray_10 : decode kX4_stray.2.1 10 = .ok (.isub, 1) := by decide +kernel
theorem dX4_stray_11 : decode kX4_stray.2.1 11 = .ok (.iload_n 2, 1) := by decide +kernel
theorem dX4_stray_12 : decode kX4_stray.2.1 12 = .ok (.imul, 1) := by decide +kernel
theorem dX4_stray_13 : decode kX4_stray.2.1 13 = .ok (.iconst 5, 1) := by decide +kernel
theorem dX4_stray_14 : decode kX4_stray.2.1 14 = .ok (.idiv, 1) := by decide +kernel
theorem dX4_stray_15 : decode kX4_stray.2.1 15 = .ok (.invokestatic 26, 3) := by decide +kernel
theorem dX4_stray_18 : decode kX4_stray.2.1 18 = .ok (.ireturn, 1) := by decide +kernel
theorem dX4_stray_19 : decode kX4_stray.2.1 19 = .ok (.aload_n 0, 1) := by decide +kernel
theorem dX4_stray_20 : decode kX4_stray.2.1 20 = .ok (.getfield 11, 3) := by decide +kernel
theorem dX4_stray_23 : decode kX4_stray.2.1 23 = .ok (.iconst 0, 1) := by decide +kernel
theorem dX4_stray_24 : decode kX4_stray.2.1 24 = .ok (.iload 6, 2) := by decide +kernel
theorem dX4_stray_26 : decode kX4_stray.2.1 26 = .ok (.iastore, 1) := by decide +kernel
theorem dX4_stray_27 : decode kX4_stray.2.1 27 = .ok (.aload_n 0, 1) := by decide +kernel
theorem dX4_stray_28 : decode kX4_stray.2.1 28 = .ok (.getfield 11, 3) := by decide +kernel
theorem dX4_stray_31 : decode kX4_stray.2.1 31 = .ok (.iconst 1, 1) := by decide +kernel
theorem dX4_stray_32 : decode kX4_stray.2.1 32 = .ok (.iload_n 2, 1) := by decide +kernel
theorem dX4_stray_33 : decode kX4_stray.2.1 33 = .ok (.iastore, 1) := by decide +kernel
theorem dX4_stray_34 : decode kX4_stray.2.1 34 = .ok (.aload_n 0, 1) := by decide +kernel
theorem dX4_stray_35 : decode kX4_stray.2.1 35 = .ok (.getfield 11, 3) := by decide +kernel
theorem dX4_stray_38 : decode kX4_stray.2.1 38 = .ok (.iconst 2, 1) := by decide +kernel
theorem dX4_stray_39 : decode kX4_stray.2.1 39 = .ok (.iload_n 3, 1) := by decide +kernel
theorem dX4_stray_40 : decode kX4_stray.2.1 40 = .ok (.bipush 9, 2) := by decide +kernel
theorem dX4_stray_42 : decode kX4_stray.2.1 42 = .ok (.invokestatic 30, 3) := by decide +kernel
theorem dX4_stray_45 : decode kX4_stray.2.1 45 = .ok (.iastore, 1) := by decide +kernel
theorem dX4_stray_46 : decode kX4_stray.2.1 46 = .ok (.aload_n 0, 1) := by decide +kernel
theorem dX4_stray_47 : decode kX4_stray.2.1 47 = .ok (.getfield 11, 3) := by decide +kernel
theorem dX4_stray_50 : decode kX4_stray.2.1 50 = .ok (.iconst 3, 1) := by decide +kernel
theorem dX4_stray_51 : decode kX4_stray.2.1 51 = .ok (.iload 5, 2) := by decide +kernel
theorem dX4_stray_53 : decode kX4_stray.2.1 53 = .ok (.iastore, 1) := by decide +kernel
theorem dX4_stray_54 : decode kX4_stray.2.1 54 = .ok (.aload_n 0, 1) := by decide +kernel
theorem dX4_stray_55 : decode kX4_stray.2.1 55 = .ok (.getfield 11, 3) := by decide +kernel
theorem dX4_stray_58 : decode kX4_stray.2.1 58 = .ok (.iconst 4, 1) := by decide +kernel
theorem dX4_stray_59 : decode kX4_stray.2.1 59 = .ok (.iload 4, 2) := by decide +kernel
theorem dX4_stray_61 : decode kX4_stray.2.1 61 = .ok (.iastore, 1) := by decide +kernel
theorem dX4_stray_62 : decode kX4_stray.2.1 62 = .ok (.aload_n 1, 1) := by decide +kernel
theorem dX4_stray_63 : decode kX4_stray.2.1 63 = .ok (.getfield 20, 3) := by decide +kernel
theorem dX4_stray_66 : decode kX4_stray.2.1 66 = .ok (.aload_n 0, 1) := by decide +kernel
theorem dX4_stray_67 : decode kX4_stray.2.1 67 = .ok (.getfield 11, 3) := by decide +kernel
theorem dX4_stray_70 : decode kX4_stray.2.1 70 = .ok (.aload_n 0, 1) := by decide +kernel
theorem dX4_stray_71 : decode kX4_stray.2.1 71 = .ok (.getfield 17, 3) := by decide +kernel
theorem dX4_stray_74 : decode kX4_stray.2.1 74 = .ok (.invokevirtual 36, 3) := by decide +kernel
theorem dX4_stray_77 : decode kX4_stray.2.1 77 = .ok (.invokestatic 26, 3) := by decide +kernel
theorem dX4_stray_80 : decode kX4_stray.2.1 80 = .ok (.ireturn, 1) := by decide +kernel
theorem dX4_held_0 : decode kX4_held.2.1 0 = .ok (.bipush (-9), 2) := by decide +kernel
theorem dX4_held_2 : decode kX4_held.2.1 2 = .ok (.bipush 9, 2) := by decide +kernel
theorem dX4_held_4 : decode kX4_held.2.1 4 = .ok (.iload_n 0, 1) := by decide +kernel
theorem dX4_held_5 : decode kX4_held.2.1 5 = .ok (.invokestatic 30, 3) := by decide +kernel
theorem dX4_held_8 : decode kX4_held.2.1 8 = .ok (.invokestatic 40, 3) := by decide +kernel
theorem dX4_held_11 : decode kX4_held.2.1 11 = .ok (.ireturn, 1) := by decide +kernel
theorem dX4_placeOf_0 : decode kX4_placeOf.2.1 0 = .ok (.iconst 0, 1) := by decide +kernel
theorem dX4_placeOf_1 : decode kX4_placeOf.2.1 1 = .ok (.bipush 20, 2) := by decide +kernel
theorem dX4_placeOf_3 : decode kX4_placeOf.2.1 3 = .ok (.iload_n 0, 1) := by decide +kernel
theorem dX4_placeOf_4 : decode kX4_placeOf.2.1 4 = .ok (.iload_n 1, 1) := by decide +kernel
theorem dX4_placeOf_5 : decode kX4_placeOf.2.1 5 = .ok (.iadd, 1) := by decide +kernel
theorem dX4_placeOf_6 : decode kX4_placeOf.2.1 6 = .ok (.invokestatic 30, 3) := by decide +kernel
theorem dX4_placeOf_9 : decode kX4_placeOf.2.1 9 = .ok (.invokestatic 40, 3) := by decide +kernel
theorem dX4_placeOf_12 : decode kX4_placeOf.2.1 12 = .ok (.ireturn, 1) := by decide +kernel
theorem dX4_landing_0 : decode kX4_landing.2.1 0 = .ok (.iload 5, 2) := by decide +kernel
theorem dX4_landing_2 : decode kX4_landing.2.1 2 = .ok (.aload_n 0, 1) := by decide +kernel
theorem dX4_landing_3 : decode kX4_landing.2.1 3 = .ok (.aload_n 1, 1) := by decide +kernel
theorem dX4_landing_4 : decode kX4_landing.2.1 4 = .ok (.iload_n 2, 1) := by decide +kernel
theorem dX4_landing_5 : decode kX4_landing.2.1 5 = .ok (.iload_n 3, 1) := by decide +kernel
theorem dX4_landing_6 : decode kX4_landing.2.1 6 = .ok (.iload 4, 2) := by decide +kernel
theorem dX4_landing_8 : decode kX4_landing.2.1 8 = .ok (.iload 5, 2) := by decide +kernel
theorem dX4_landing_10 : decode kX4_landing.2.1 10 = .ok (.iload 6, 2) := by decide +kernel
theorem dX4_landing_12 : decode kX4_landing.2.1 12 = .ok (.invokevirtual 43, 3) := by decide +kernel
theorem dX4_landing_15 : decode kX4_landing.2.1 15 = .ok (.invokestatic 47, 3) := by decide +kernel
theorem dX4_landing_18 : decode kX4_landing.2.1 18 = .ok (.ireturn, 1) := by decide +kernel
theorem dX4_isEyeOpen_0 : decode kX4_isEyeOpen.2.1 0 = .ok (.aload_n 1, 1) := by decide +kernel
theorem dX4_isEyeOpen_1 : decode kX4_isEyeOpen.2.1 1 = .ok (.getfield 50, 3) := by decide +kernel
theorem dX4_isEyeOpen_4 : decode kX4_isEyeOpen.2.1 4 = .ok (.ifnonnull 16, 3) := by decide +kernel
theorem dX4_isEyeOpen_7 : decode kX4_isEyeOpen.2.1 7 = .ok (.iload_n 2, 1) := by decide +kernel
theorem dX4_isEyeOpen_8 : decode kX4_isEyeOpen.2.1 8 = .ok (.iconst 1, 1) := by decide +kernel
theorem dX4_isEyeOpen_9 : decode kX4_isEyeOpen.2.1 9 = .ok (.iand, 1) := by decide +kernel
theorem dX4_isEyeOpen_10 : decode kX4_isEyeOpen.2.1 10 = .ok (.iconst 1, 1) := by decide +kernel
theorem dX4_isEyeOpen_11 : decode kX4_isEyeOpen.2.1 11 = .ok (.if_icmp .ne 7, 3) := by decide +kernel
theorem dX4_isEyeOpen_14 : decode kX4_isEyeOpen.2.1 14 = .ok (.iconst 1, 1) := by decide +kernel
theorem dX4_isEyeOpen_15 : decode kX4_isEyeOpen.2.1 15 = .ok (.goto 4, 3) := by decide +kernel
theorem dX4_isEyeOpen_18 : decode kX4_isEyeOpen.2.1 18 = .ok (.iconst 0, 1) := by decide +kernel
theorem dX4_isEyeOpen_19 : decode kX4_isEyeOpen.2.1 19 = .ok (.ireturn, 1) := by decide +kernel
theorem dX4_isEyeOpen_20 : decode kX4_isEyeOpen.2.1 20 = .ok (.aload_n 0, 1) := by decide +kernel
theorem dX4_isEyeOpen_21 : decode kX4_isEyeOpen.2.1 21 = .ok (.getfield 11, 3) := by decide +kernel
theorem dX4_isEyeOpen_24 : decode kX4_isEyeOpen.2.1 24 = .ok (.iconst 5, 1) := by decide +kernel
theorem dX4_isEyeOpen_25 : decode kX4_isEyeOpen.2.1 25 = .ok (.iload_n 2, 1) := by decide +kernel
theorem dX4_isEyeOpen_26 : decode kX4_isEyeOpen.2.1 26 = .ok (.iastore, 1) := by decide +kernel
theorem dX4_isEyeOpen_27 : decode kX4_isEyeOpen.2.1 27 = .ok (.aload_n 0, 1) := by decide +kernel
theorem dX4_isEyeOpen_28 : decode kX4_isEyeOpen.2.1 28 = .ok (.getfield 11, 3) := by decide +kernel
theorem dX4_isEyeOpen_31 : decode kX4_isEyeOpen.2.1 31 = .ok (.bipush 6, 2) := by decide +kernel
theorem dX4_isEyeOpen_33 : decode kX4_isEyeOpen.2.1 33 = .ok (.iload_n 3, 1) := by decide +kernel
theorem dX4_isEyeOpen_34 : decode kX4_isEyeOpen.2.1 34 = .ok (.bipush 9, 2) := by decide +kernel
theorem dX4_isEyeOpen_36 : decode kX4_isEyeOpen.2.1 36 = .ok (.invokestatic 30, 3) := by decide +kernel
theorem dX4_isEyeOpen_39 : decode kX4_isEyeOpen.2.1 39 = .ok (.iastore, 1) := by decide +kernel
theorem dX4_isEyeOpen_40 : decode kX4_isEyeOpen.2.1 40 = .ok (.aload_n 0, 1) := by decide +kernel
theorem dX4_isEyeOpen_41 : decode kX4_isEyeOpen.2.1 41 = .ok (.getfield 11, 3) := by decide +kernel
theorem dX4_isEyeOpen_44 : decode kX4_isEyeOpen.2.1 44 = .ok (.iconst 4, 1) := by decide +kernel
theorem dX4_isEyeOpen_45 : decode kX4_isEyeOpen.2.1 45 = .ok (.iload 4, 2) := by decide +kernel
theorem dX4_isEyeOpen_47 : decode kX4_isEyeOpen.2.1 47 = .ok (.iastore, 1) := by decide +kernel
theorem dX4_isEyeOpen_48 : decode kX4_isEyeOpen.2.1 48 = .ok (.aload_n 1, 1) := by decide +kernel
theorem dX4_isEyeOpen_49 : decode kX4_isEyeOpen.2.1 49 = .ok (.getfield 50, 3) := by decide +kernel
theorem dX4_isEyeOpen_52 : decode kX4_isEyeOpen.2.1 52 = .ok (.aload_n 0, 1) := by decide +kernel
theorem dX4_isEyeOpen_53 : decode kX4_isEyeOpen.2.1 53 = .ok (.getfield 11, 3) := by decide +kernel
theorem dX4_isEyeOpen_56 : decode kX4_isEyeOpen.2.1 56 = .ok (.aload_n 0, 1) := by decide +kernel
theorem dX4_isEyeOpen_57 : decode kX4_isEyeOpen.2.1 57 = .ok (.getfield 17, 3) := by decide +kernel
theorem dX4_isEyeOpen_60 : decode kX4_isEyeOpen.2.1 60 = .ok (.invokevirtual 36, 3) := by decide +kernel
theorem dX4_isEyeOpen_63 : decode kX4_isEyeOpen.2.1 63 = .ok (.ifCond .eq 7, 3) := by decide +kernel
theorem dX4_isEyeOpen_66 : decode kX4_isEyeOpen.2.1 66 = .ok (.iconst 1, 1) := by decide +kernel
theorem dX4_isEyeOpen_67 : decode kX4_isEyeOpen.2.1 67 = .ok (.goto 4, 3) := by decide +kernel
theorem dX4_isEyeOpen_70 : decode kX4_isEyeOpen.2.1 70 = .ok (.iconst 0, 1) := by decide +kernel
theorem dX4_isEyeOpen_71 : decode kX4_isEyeOpen.2.1 71 = .ok (.ireturn, 1) := by decide +kernel
theorem dX5_init_0 : decode kX5_init.2.1 0 = .ok (.aload_n 0, 1) := by decide +kernel
theorem dX5_init_1 : decode kX5_init.2.1 1 = .ok (.invokespecial 3, 3) := by decide +kernel
theorem dX5_init_4 : decode kX5_init.2.1 4 = .ok (.aload_n 0, 1) := by decide +kernel
theorem dX5_init_5 : decode kX5_init.2.1 5 = .ok (.new 9, 3) := by decide +kernel
theorem dX5_init_8 : decode kX5_init.2.1 8 = .ok (.dup, 1) := by decide +kernel
theorem dX5_init_9 : decode kX5_init.2.1 9 = .ok (.invokespecial 11, 3) := by decide +kernel
theorem dX5_init_12 : decode kX5_init.2.1 12 = .ok (.putfield 12, 3) := by decide +kernel
theorem dX5_init_15 : decode kX5_init.2.1 15 = .ok (.aload_n 0, 1) := by decide +kernel
theorem dX5_init_16 : decode kX5_init.2.1 16 = .ok (.iconst 0, 1) := by decide +kernel
theorem dX5_init_17 : decode kX5_init.2.1 17 = .ok (.putfield 18, 3) := by decide +kernel
theorem dX5_init_20 : decode kX5_init.2.1 20 = .ok (.aload_n 0, 1) := by decide +kernel
theorem dX5_init_21 : decode kX5_init.2.1 21 = .ok (.iconst (-1), 1) := by decide +kernel
theorem dX5_init_22 : decode kX5_init.2.1 22 = .ok (.putfield 22, 3) := by decide +kernel
theorem dX5_init_25 : decode kX5_init.2.1 25 = .ok (.aload_n 0, 1) := by decide +kernel
theorem dX5_init_26 : decode kX5_init.2.1 26 = .ok (.sipush 900, 3) := by decide +kernel
theorem dX5_init_29 : decode kX5_init.2.1 29 = .ok (.newarray .int, 2) := by decide +kernel
theorem dX5_init_31 : decode kX5_init.2.1 31 = .ok (.putfield 25, 3) := by decide +kernel
theorem dX5_init_34 : decode kX5_init.2.1 34 = .ok (.aload_n 0, 1) := by decide +kernel
theorem dX5_init_35 : decode kX5_init.2.1 35 = .ok (.iconst 0, 1) := by decide +kernel
theorem dX5_init_36 : decode kX5_init.2.1 36 = .ok (.putfield 29, 3) := by decide +kernel
theorem dX5_init_39 : decode kX5_init.2.1 39 = .ok (.aload_n 0, 1) := by decide +kernel
theorem dX5_init_40 : decode kX5_init.2.1 40 = .ok (.iconst 0, 1) := by decide +kernel
theorem dX5_init_41 : decode kX5_init.2.1 41 = .ok (.putfield 32, 3) := by decide +kernel
theorem dX5_init_44 : decode kX5_init.2.1 44 = .ok (.aload_n 0, 1) := by decide +kernel
theorem dX5_init_45 : decode kX5_init.2.1 45 = .ok (.iconst 0, 1) := by decide +kernel
theorem dX5_init_46 : decode kX5_init.2.1 46 = .ok (.putfield 36, 3) := by decide +kernel
theorem dX5_init_49 : decode kX5_init.2.1 49 = .ok (.aload_n 0, 1) := by decide +kernel
theorem dX5_init_50 : decode kX5_init.2.1 50 = .ok (.iconst (-1), 1) := by decide +kernel
theorem dX5_init_51 : decode kX5_init.2.1 51 = .ok (.putfield 39, 3) := by decide +kernel
theorem dX5_init_54 : decode kX5_init.2.1 54 = .ok (.return_, 1) := by decide +kernel
theorem dX5_read_0 : decode kX5_read.2.1 0 = .ok (.aload_n 0, 1) := by decide +kernel
theorem dX5_read_1 : decode kX5_read.2.1 1 = .ok (.iconst 0, 1) := by decide +kernel
theorem dX5_read_2 : decode kX5_read.2.1 2 = .ok (.putfield 36, 3) := by decide +kernel
theorem dX5_read_5 : decode kX5_read.2.1 5 = .ok (.aload_n 0, 1) := by decide +kernel
theorem dX5_read_6 : decode kX5_read.2.1 6 = .ok (.iconst (-1), 1) := by decide +kernel
theorem dX5_read_7 : decode kX5_read.2.1 7 = .ok (.putfield 39, 3) := by decide +kernel
theorem dX5_read_10 : decode kX5_read.2.1 10 = .ok (.aload_n 0, 1) := by decide +kernel
theorem dX5_read_11 : decode kX5_read.2.1 11 = .ok (.getfield 12, 3) := by decide +kernel
theorem dX5_read_14 : decode kX5_read.2.1 14 = .ok (.aload_n 1, 1) := by decide +kernel
theorem dX5_read_15 : decode kX5_read.2.1 15 = .ok (.iload_n 2, 1) := by decide +kernel
theorem dX5_read_16 : decode kX5_read.2.1 16 = .ok (.invokevirtual 42, 3) := by decide +kernel
theorem dX5_read_19 : decode kX5_read.2.1 19 = .ok (.aload_n 0, 1) := by decide +kernel
theorem dX5_read_20 : decode kX5_read.2.1 20 = .ok (.iconst 0, 1) := by decide +kernel
theorem dX5_read_21 : decode kX5_read.2.1 21 = .ok (.putfield 18, 3) := by decide +kernel
theorem dX5_read_24 : decode kX5_read.2.1 24 = .ok (.aload_n 0, 1) := by decide +kernel
theorem dX5_read_25 : decode kX5_read.2.1 25 = .ok (.aload_n 0, 1) := by decide +kernel
theorem dX5_read_26 : decode kX5_read.2.1 26 = .ok (.getfield 12, 3) := by decide +kernel
theorem dX5_read_29 : decode kX5_read.2.1 29 = .ok (.iconst 0, 1) := by decide +kernel
theorem dX5_read_30 : decode kX5_read.2.1 30 = .ok (.invokevirtual 46, 3) := by decide +kernel
theorem dX5_read_33 : decode kX5_read.2.1 33 = .ok (.putfield 22, 3) := by decide +kernel
theorem dX5_read_36 : decode kX5_read.2.1 36 = .ok (.new 49, 3) := by decide +kernel
theorem dX5_read_39 : decode kX5_read.2.1 39 = .ok (.dup, 1) := by decide +kernel
theorem dX5_read_40 : decode kX5_read.2.1 40 = .ok (.invokespecial 51, 3) := by decide +kernel
theorem dX5_read_43 : decode kX5_read.2.1 43 = .ok (.astore_n 3, 1) := by decide +kernel
theorem dX5_read_44 : decode kX5_read.2.1 44 = .ok (.aload_n 0, 1) := by decide +kernel
theorem dX5_read_45 : decode kX5_read.2.1 45 = .ok (.sipush 1000, 3) := by decide +kernel
theorem dX5_read_48 : decode kX5_read.2.1 48 = .ok (.invokevirtual 52, 3) := by decide +kernel
theorem dX5_read_51 : decode kX5_read.2.1 51 = .ok (.aload_n 0, 1) := by decide +kernel
theorem dX5_read_52 : decode kX5_read.2.1 52 = .ok (.sipush 1001, 3) := by decide +kernel
theorem dX5_read_55 : decode kX5_read.2.1 55 = .ok (.invokevirtual 52, 3) := by decide +kernel
theorem dX5_read_58 : decode kX5_read.2.1 58 = .ok (.aload_n 3, 1) := by decide +kernel
theorem dX5_read_59 : decode kX5_read.2.1 59 = .ok (.aload_n 0, 1) := by decide +kernel
theorem dX5_read_60 : decode kX5_read.2.1 60 = .ok (.iconst 0, 1) := by decide +kernel
theorem dX5_read_61 : decode kX5_read.2.1 61 = .ok (.bipush 20, 2) := by decide +kernel
theorem dX5_read_63 : decode kX5_read.2.1 63 = .ok (.invokevirtual 56, 3) := by decide +kernel
theorem dX5_read_66 : decode kX5_read.2.1 66 = .ok (.putfield 60, 3) := by decide +kernel
theorem dX5_read_69 : decode kX5_read.2.1 69 = .ok (.aload_n 3, 1) := by decide +kernel
theorem dX5_read_70 : decode kX5_read.2.1 70 = .ok (.aload_n 0, 1) := by decide +kernel
theorem dX5_read_71 : decode kX5_read.2.1 71 = .ok (.aload_n 3, 1) := by decide +kernel
theorem dX5_read_72 : decode kX5_read.2.1 72 = .ok (.getfield 60, 3) := by decide +kernel
theorem dX5_read_75 : decode kX5_read.2.1 75 = .ok (.bipush 20, 2) := by decide +kernel
theorem dX5_read_77 : decode kX5_read.2.1 77 = .ok (.invokevirtual 56, 3) := by decide +kernel
theorem dX5_read_80 : decode kX5_read.2.1 80 = .ok (.putfield 63, 3) := by decide +kernel
theorem dX5_read_83 : decode kX5_read.2.1 83 = .ok (.aload_n 0, 1) := by decide +kernel
theorem dX5_read_84 : decode kX5_read.2.1 84 = .ok (.sipush 2059, 3) := by decide +kernel
theorem dX5_read_87 : decode kX5_read.2.1 87 = .ok (.invokevirtual 52, 3) := by decide +kernel
theorem dX5_read_90 : decode kX5_read.2.1 90 = .ok (.aload_n 3, 1) := by decide +kernel
theorem dX5_read_91 : decode kX5_read.2.1 91 = .ok (.iconst 1, 1) := by decide +kernel
theorem dX5_read_92 : decode kX5_read.2.1 92 = .ok (.putfield 66, 3) := by decide +kernel
theorem dX5_read_95 : decode kX5_read.2.1 95 = .ok (.iconst 0, 1) := by decide +kernel
theorem dX5_read_96 : decode kX5_read.2.1 96 = .ok (.istore 4, 2) := by decide +kernel
theorem dX5_read_98 : decode kX5_read.2.1 98 = .ok (.iload 4, 2) := by decide +kernel
theorem dX5_read_100 : decode kX5_read.2.1 100 = .ok (.sipush 900, 3) := by decide +kernel
theorem dX5_read_103 : decode kX5_read.2.1 103 = .ok (.if_icmp .ge 48, 3) := by decide +kernel
theorem dX5_read_106 : decode kX5_read.2.1 106 = .ok (.aload_n 0, 1) := by decide +kernel
theorem dX5_read_107 : decode kX5_read.2.1 107 = .ok (.getfield 36, 3) := by decide +kernel
theorem dX5_read_110 : decode kX5_read.2.1 110 = .ok (.ifCond .ne 41, 3) := by decide +kernel
theorem dX5_read_113 : decode kX5_read.2.1 113 = .ok (.aload_n 0, 1) := by decide +kernel
theorem dX5_read_114 : decode kX5_read.2.1 114 = .ok (.getfield 22, 3) := by decide +kernel
theorem dX5_read_117 : decode kX5_read.2.1 117 = .ok (.sipush 4000, 3) := by decide +kernel
theorem dX5_read_120 : decode kX5_read.2.1 120 = .ok (.if_icmp .eq 31, 3) := by decide +kernel
theorem dX5_read_123 : decode kX5_read.2.1 123 = .ok (.aload_n 0, 1) := by decide +kernel
theorem dX5_read_124 : decode kX5_read.2.1 124 = .ok (.aload_n 3, 1) := by decide +kernel
theorem dX5_read_125 : decode kX5_read.2.1 125 = .ok (.invokevirtual 69, 3) := by decide +kernel
theorem dX5_read_128 : decode kX5_read.2.1 128 = .ok (.aload_n 0, 1) := by decide +kernel
theorem dX5_read_129 : decode kX5_read.2.1 129 = .ok (.sipush 2059, 3) := by decide +kernel
theorem dX5_read_132 : decode kX5_read.2.1 132 = .ok (.invokevirtual 52, 3) := by decide +kernel
theorem dX5_read_135 : decode kX5_read.2.1 135 = .ok (.aload_n 3, 1) := by decide +kernel
theorem dX5_read_136 : decode kX5_read.2.1 136 = .ok (.dup, 1) := by decide +kernel
theorem dX5_read_137 : decode kX5_read.2.1 137 = .ok (.getfield 66, 3) := by decide +kernel
theorem dX5_read_140 : decode kX5_read.2.1 140 = .ok (.iconst 1, 1) := by decide +kernel
theorem dX5_read_141 : decode kX5_read.2.1 141 = .ok (.iadd, 1) := by decide +kernel
theorem dX5_read_142 : decode kX5_read.2.1 142 = .ok (.putfield 66, 3) := by decide +kernel
theorem dX5_read_145 : decode kX5_read.2.1 145 = .ok (.iinc 4 1, 3) := by decide +kernel
theorem dX5_read_148 : decode kX5_read.2.1 148 = .ok (.goto (-50), 3) := by decide +kernel
theorem dX5_read_151 : decode kX5_read.2.1 151 = .ok (.aload_n 0, 1) := by decide +kernel
theorem dX5_read_152 : decode kX5_read.2.1 152 = .ok (.getfield 36, 3) := by decide +kernel
theorem dX5_read_155 : decode kX5_read.2.1 155 = .ok (.ifCond .ne 7, 3) := by decide +kernel
theorem dX5_read_158 : decode kX5_read.2.1 158 = .ok (.aload_n 3, 1) := by decide +kernel
theorem dX5_read_159 : decode kX5_read.2.1 159 = .ok (.goto 4, 3) := by decide +kernel
theorem dX5_read_162 : decode kX5_read.2.1 162 = .ok (.aconst_null, 1) := by decide +kernel
theorem dX5_read_163 : decode kX5_read.2.1 163 = .ok (.areturn, 1) := by decide +kernel
theorem dX5_fail_0 : decode kX5_fail.2.1 0 = .ok (.aload_n 0, 1) := by decide +kernel
theorem dX5_fail_1 : decode kX5_fail.2.1 1 = .ok (.getfield 36, 3) := by decide +kernel
theorem dX5_fail_4 : decode kX5_fail.2.1 4 = .ok (.ifCond .ne 42, 3) := by decide +kernel
theorem dX5_fail_7 : decode kX5_fail.2.1 7 = .ok (.aload_n 0, 1) := by decide +kernel
theorem dX5_fail_8 : decode kX5_fail.2.1 8 = .ok (.aload_n 0, 1) := by decide +kernel
theorem dX5_fail_9 : decode kX5_fail.2.1 9 = .ok (.getfield 22, 3) := by decide +kernel
theorem dX5_fail_12 : decode kX5_fail.2.1 12 = .ok (.sipush 3000, 3) := by decide +kernel
theorem dX5_fail_15 : decode kX5_fail.2.1 15 = .ok (.if_icmp .ne 7, 3) := by decide +kernel
theorem dX5_fail_18 : decode kX5_fail.2.1 18 = .ok (.iconst 1, 1) := by decide +kernel
theorem dX5_fail_19 : decode kX5_fail.2.1 19 = .ok (.goto 4, 3) := by decide +kernel
theorem dX5_fail_22 : decode kX5_fail.2.1 22 = .ok (.iload_n 1, 1) := by decide +kernel
theorem dX5_fail_23 : decode kX5_fail.2.1 23 = .ok (.putfield 36, 3) := by decide +kernel
theorem dX5_fail_26 : decode kX5_fail.2.1 26 = .ok (.aload_n 0, 1) := by decide +kernel
theorem dX5_fail_27 : decode kX5_fail.2.1 27 = .ok (.aload_n 0, 1) := by decide +kernel
theorem dX5_fail_28 : decode kX5_fail.2.1 28 = .ok (.getfield 12, 3) := by decide +kernel
theorem dX5_fail_31 : decode kX5_fail.2.1 31 = .ok (.aload_n 0, 1) := by decide +kernel
theorem dX5_fail_32 : decode kX5_fail.2.1 32 = .ok (.getfield 18, 3) := by decide +kernel
theorem dX5_fail_35 : decode kX5_fail.2.1 35 = .ok (.invokevirtual 73, 3) := by decide +kernel
theorem dX5_fail_38 : decode kX5_fail.2.1 38 = .ok (.putfield 39, 3) := by decide +kernel
theorem dX5_fail_41 : decode kX5_fail.2.1 41 = .ok (.aload_n 0, 1) := by decide +kernel
theorem dX5_fail_42 : decode kX5_fail.2.1 42 = .ok (.iconst (-1), 1) := by decide +kernel
theorem dX5_fail_43 : decode kX5_fail.2.1 43 = .ok (.putfield 22, 3) := by decide +kernel
theorem dX5_fail_46 : decode kX5_fail.2.1 46 = .ok (.return_, 1) := by decide +kernel
theorem dX5_step_0 : decode kX5_step.2.1 0 = .ok (.aload_n 0, 1) := by decide +kernel
theorem dX5_step_1 : decode kX5_step.2.1 1 = .ok (.getfield 36, 3) := by decide +kernel
theorem dX5_step_4 : decode kX5_step.2.1 4 = .ok (.ifCond .ne 28, 3) := by decide +kernel
theorem dX5_step_7 : decode kX5_step.2.1 7 = .ok (.aload_n 0, 1) := by decide +kernel
theorem dX5_step_8 : decode kX5_step.2.1 8 = .ok (.dup, 1) := by decide +kernel
theorem dX5_step_9 : decode kX5_step.2.1 9 = .ok (.getfield 18, 3) := by decide +kernel
theorem dX5_step_12 : decode kX5_step.2.1 12 = .ok (.iconst 1, 1) := by decide +kernel
theorem dX5_step_13 : decode kX5_step.2.1 13 = .ok (.iadd, 1) := by decide +kernel
theorem dX5_step_14 : decode kX5_step.2.1 14 = .ok (.putfield 18, 3) := by decide +kernel
theorem dX5_step_17 : decode kX5_step.2.1 17 = .ok (.aload_n 0, 1) := by decide +kernel
theorem dX5_step_18 : decode kX5_step.2.1 18 = .ok (.aload_n 0, 1) := by decide +kernel
theorem dX5_step_19 : decode kX5_step.2.1 19 = .ok (.getfield 12, 3) := by decide +kernel
theorem dX5_step_22 : decode kX5_step.2.1 22 = .ok (.aload_n 0, 1) := by decide +kernel
theorem dX5_step_23 : decode kX5_step.2.1 23 = .ok (.getfield 18, 3) := by decide +kernel
theorem dX5_step_26 : decode kX5_step.2.1 26 = .ok (.invokevirtual 46, 3) := by decide +kernel
theorem dX5_step_29 : decode kX5_step.2.1 29 = .ok (.putfield 22, 3) := by decide +kernel
theorem dX5_step_32 : decode kX5_step.2.1 32 = .ok (.return_, 1) := by decide +kernel
theorem dX5_isNumber_0 : decode kX5_isNumber.2.1 0 = .ok (.aload_n 0, 1) := by decide +kernel
theorem dX5_isNumber_1 : decode kX5_isNumber.2.1 1 = .ok (.getfield 22, 3) := by decide +kernel
theorem dX5_isNumber_4 : decode kX5_isNumber.2.1 4 = .ok (.ifCond .lt 17, 3) := by decide +kernel
theorem dX5_isNumber_7 : decode kX5_isNumber.2.1 7 = .ok (.aload_n 0, 1) := by decide +kernel
theorem dX5_isNumber_8 : decode kX5_isNumber.2.1 8 = .ok (.getfield 22, 3) := by decide +kernel
theorem dX5_isNumber_11 : decode kX5_isNumber.2.1 11 = .ok (.sipush 1000, 3) := by decide +kernel
theorem dX5_isNumber_14 : decode kX5_isNumber.2.1 14 = .ok (.if_icmp .ge 7, 3) := by decide +kernel
theorem dX5_isNumber_17 : decode kX5_isNumber.2.1 17 = .ok (.iconst 1, 1) := by decide +kernel
theorem dX5_isNumber_18 : decode kX5_isNumber.2.1 18 = .ok (.goto 4, 3) := by decide +kernel
theorem dX5_isNumber_21 : decode kX5_isNumber.2.1 21 = .ok (.iconst 0, 1) := by decide +kernel
theorem dX5_isNumber_22 : decode kX5_isNumber.2.1 22 = .ok (.ireturn, 1) := by decide +kernel
theorem dX5_take_0 : decode kX5_take.2.1 0 = .ok (.aload_n 0, 1) := by decide +kernel
theorem dX5_take_1 : decode kX5_take.2.1 1 = .ok (.getfield 22, 3) := by decide +kernel
theorem dX5_take_4 : decode kX5_take.2.1 4 = .ok (.iload_n 1, 1) := by decide +kernel
theorem dX5_take_5 : decode kX5_take.2.1 5 = .ok (.if_icmp .ne 10, 3) := by decide +kernel
theorem dX5_take_8 : decode kX5_take.2.1 8 = .ok (.aload_n 0, 1) := by decide +kernel
theorem dX5_take_9 : decode kX5_take.2.1 9 = .ok (.invokevirtual 76, 3) := by decide +kernel
theorem dX5_take_12 : decode kX5_take.2.1 12 = .ok (.goto 8, 3) := by decide +kernel
theorem dX5_take_15 : decode kX5_take.2.1 15 = .ok (.aload_n 0, 1) := by decide +kernel
theorem dX5_take_16 : decode kX5_take.2.1 16 = .ok (.iconst 2, 1) := by decide +kernel
theorem dX5_take_17 : decode kX5_take.2.1 17 = .ok (.invokevirtual 79, 3) := by decide +kernel
theorem dX5_take_20 : decode kX5_take.2.1 20 = .ok (.return_, 1) := by decide +kernel
theorem dX5_takeNumber_0 : decode kX5_takeNumber.2.1 0 = .ok (.aload_n 0, 1) := by decide +kernel
theorem dX5_takeNumber_1 : decode kX5_takeNumber.2.1 1 = .ok (.getfield 22, 3) := by decide +kernel
theorem dX5_takeNumber_4 : decode kX5_takeNumber.2.1 4 = .ok (.istore_n 3, 1) := by decide +kernel
theorem dX5_takeNumber_5 : decode kX5_takeNumber.2.1 5 = .ok (.aload_n 0, 1) := by decide +kernel
theorem dX5_takeNumber_6 : decode kX5_takeNumber.2.1 6 = .ok (.invokevirtual 82, 3) := by decide +kernel
theorem dX5_takeNumber_9 : decode kX5_takeNumber.2.1 9 = .ok (.ifCond .ne 11, 3) := by decide +kernel
theorem dX5_takeNumber_12 : decode kX5_takeNumber.2.1 12 = .ok (.aload_n 0, 1) := by decide +kernel
theorem dX5_takeNumber_13 : decode kX5_takeNumber.2.1 13 = .ok (.iconst 2, 1) := by decide +kernel
theorem dX5_takeNumber_14 : decode kX5_takeNumber.2.1 14 = .ok (.invokevirtual 79, 3) := by decide +kernel
theorem dX5_takeNumber_17 : decode kX5_takeNumber.2.1 17 = .ok (.goto 18, 3) := by decide +kernel
theorem dX5_takeNumber_20 : decode kX5_takeNumber.2.1 20 = .ok (.iload_n 3, 1) := by decide +kernel
theorem dX5_takeNumber_21 : decode kX5_takeNumber.2.1 21 = .ok (.iload_n 1, 1) := by decide +kernel
theorem dX5_takeNumber_22 : decode kX5_takeNumber.2.1 22 = .ok (.if_icmp .lt 8, 3) := by decide +kernel
theorem dX5_takeNumber_25 : decode kX5_takeNumber.2.1 25 = .ok (.iload_n 3, 1) := by decide +kernel
theorem dX5_takeNumber_26 : decode kX5_takeNumber.2.1 26 = .ok (.iload_n 2, 1) := by decide +kernel
theorem dX5_takeNumber_27 : decode kX5_takeNumber.2.1 27 = .ok (.if_icmp .le 8, 3) := by decide +kernel
theorem dX5_takeNumber_30 : decode kX5_takeNumber.2.1 30 = .ok (.aload_n 0, 1) := by decide +kernel
theorem dX5_takeNumber_31 : decode kX5_takeNumber.2.1 31 = .ok (.iconst 3, 1) := by decide +kernel
theorem dX5_takeNumber_32 : decode kX5_takeNumber.2.1 32 = .ok (.invokevirtual 79, 3) := by decide +kernel
theorem dX5_takeNumber_35 : decode kX5_takeNumber.2.1 35 = .ok (.aload_n 0, 1) := by decide +kernel
theorem dX5_takeNumber_36 : decode kX5_takeNumber.2.1 36 = .ok (.invokevirtual 76, 3) := by decide +kernel
theorem dX5_takeNumber_39 : decode kX5_takeNumber.2.1 39 = .ok (.iload_n 3, 1) := by decide +kernel
theorem dX5_takeNumber_40 : decode kX5_takeNumber.2.1 40 = .ok (.ireturn, 1) := by decide +kernel
theorem dX5_readLine_0 : decode kX5_readLine.2.1 0 = .ok (.aload_n 0, 1) := by decide +kernel
theorem dX5_readLine_1 : decode kX5_readLine.2.1 1 = .ok (.getfield 22, 3) := by decide +kernel
theorem dX5_readLine_4 : decode kX5_readLine.2.1 4 = .ok (.tableswitch 106 1002 1009 #[48, 106, 106, 56, 106, 64, 82, 94], 48) := by decide +kernel
theorem dX5_readLine_52 : decode kX5_readLine.2.1 52 = .ok (.aload_n 0, 1) := by decide +kernel
theorem dX5_readLine_53 : decode kX5_readLine.2.1 53 = .ok (.aload_n 1, 1) := by decide +kernel
theorem dX5_readLine_54 : decode kX5_readLine.2.1 54 = .ok (.invokevirtual 86, 3) := by decide +kernel
theorem dX5_readLine_57 : decode kX5_readLine.2.1 57 = .ok (.goto 58, 3) := by decide +kernel
theorem dX5_readLine_60 : decode kX5_readLine.2.1 60 = .ok (.aload_n 0, 1) := by decide +kernel
theorem dX5_readLine_61 : decode kX5_readLine.2.1 61 = .ok (.aload_n 1, 1) := by decide +kernel
theorem dX5_readLine_62 : decode kX5_readLine.2.1 62 = .ok (.invokevirtual 89, 3) := by decide +kernel
theorem dX5_readLine_65 : decode kX5_readLine.2.1 65 = .ok (.goto 50, 3) := by decide +kernel
theorem dX5_readLine_68 : decode kX5_readLine.2.1 68 = .ok (.aload_n 0, 1) := by decide +kernel
theorem dX5_readLine_69 : decode kX5_readLine.2.1 69 = .ok (.invokevirtual 76, 3) := by decide +kernel
theorem dX5_readLine_72 : decode kX5_readLine.2.1 72 = .ok (.aload_n 1, 1) := by decide +kernel
theorem dX5_readLine_73 : decode kX5_readLine.2.1 73 = .ok (.aload_n 0, 1) := by decide +kernel
theorem dX5_readLine_74 : decode kX5_readLine.2.1 74 = .ok (.iconst 0, 1) := by decide +kernel
theorem dX5_readLine_75 : decode kX5_readLine.2.1 75 = .ok (.bipush 9, 2) := by decide +kernel
theorem dX5_readLine_77 : decode kX5_readLine.2.1 77 = .ok (.invokevirtual 56, 3) := by decide +kernel
theorem dX5_readLine_80 : decode kX5_readLine.2.1 80 = .ok (.putfield 92, 3) := by decide +kernel
theorem dX5_readLine_83 : decode kX5_readLine.2.1 83 = .ok (.goto 32, 3) := by decide +kernel
theorem dX5_readLine_86 : decode kX5_readLine.2.1 86 = .ok (.aload_n 1, 1) := by decide +kernel
theorem dX5_readLine_87 : decode kX5_readLine.2.1 87 = .ok (.aload_n 0, 1) := by decide +kernel
theorem dX5_readLine_88 : decode kX5_readLine.2.1 88 = .ok (.iconst 1, 1) := by decide +kernel
theorem dX5_readLine_89 : decode kX5_readLine.2.1 89 = .ok (.invokevirtual 95, 3) := by decide +kernel
theorem dX5_readLine_92 : decode kX5_readLine.2.1 92 = .ok (.putfield 99, 3) := by decide +kernel
theorem dX5_readLine_95 : decode kX5_readLine.2.1 95 = .ok (.goto 20, 3) := by decide +kernel
theorem dX5_readLine_98 : decode kX5_readLine.2.1 98 = .ok (.aload_n 1, 1) := by decide +kernel
theorem dX5_readLine_99 : decode kX5_readLine.2.1 99 = .ok (.aload_n 0, 1) := by decide +kernel
theorem dX5_readLine_100 : decode kX5_readLine.2.1 100 = .ok (.iconst 0, 1) := by decide +kernel
theorem dX5_readLine_101 : decode kX5_readLine.2.1 101 = .ok (.invokevirtual 95, 3) := by decide +kernel
theorem dX5_readLine_104 : decode kX5_readLine.2.1 104 = .ok (.putfield 103, 3) := by decide +kernel
theorem dX5_readLine_107 : decode kX5_readLine.2.1 107 = .ok (.goto 8, 3) := by decide +kernel
theorem dX5_readLine_110 : decode kX5_readLine.2.1 110 = .ok (.aload_n 0, 1) := by decide +kernel
theorem dX5_readLine_111 : decode kX5_readLine.2.1 111 = .ok (.iconst 2, 1) := by decide +kernel
theorem dX5_readLine_112 : decode kX5_readLine.2.1 112 = .ok (.invokevirtual 79, 3) := by decide +kernel
theorem dX5_readLine_115 : decode kX5_readLine.2.1 115 = .ok (.return_, 1) := by decide +kernel
theorem dX5_readTop_0 : decode kX5_readTop.2.1 0 = .ok (.aload_n 0, 1) := by decide +kernel
theorem dX5_readTop_1 : decode kX5_readTop.2.1 1 = .ok (.invokevirtual 76, 3) := by decide +kernel
theorem dX5_readTop_4 : decode kX5_readTop.2.1 4 = .ok (.aload_n 1, 1) := by decide +kernel
theorem dX5_readTop_5 : decode kX5_readTop.2.1 5 = .ok (.aload_n 0, 1) := by decide +kernel
theorem dX5_readTop_6 : decode kX5_readTop.2.1 6 = .ok (.iconst 0, 1) := by decide +kernel
theorem dX5_readTop_7 : decode kX5_readTop.2.1 7 = .ok (.bipush 99, 2) := by decide +kernel
theorem dX5_readTop_9 : decode kX5_readTop.2.1 9 = .ok (.invokevirtual 56, 3) := by decide +kernel
theorem dX5_readTop_12 : decode kX5_readTop.2.1 12 = .ok (.putfield 106, 3) := by decide +kernel
theorem dX5_readTop_15 : decode kX5_readTop.2.1 15 = .ok (.aload_n 0, 1) := by decide +kernel
theorem dX5_readTop_16 : decode kX5_readTop.2.1 16 = .ok (.sipush 1003, 3) := by decide +kernel
theorem dX5_readTop_19 : decode kX5_readTop.2.1 19 = .ok (.invokevirtual 52, 3) := by decide +kernel
theorem dX5_readTop_22 : decode kX5_readTop.2.1 22 = .ok (.aload_n 1, 1) := by decide +kernel
theorem dX5_readTop_23 : decode kX5_readTop.2.1 23 = .ok (.aload_n 0, 1) := by decide +kernel
theorem dX5_readTop_24 : decode kX5_readTop.2.1 24 = .ok (.iconst 0, 1) := by decide +kernel
theorem dX5_readTop_25 : decode kX5_readTop.2.1 25 = .ok (.bipush 99, 2) := by decide +kernel
theorem dX5_readTop_27 : decode kX5_readTop.2.1 27 = .ok (.invokevirtual 56, 3) := by decide +kernel
theorem dX5_readTop_30 : decode kX5_readTop.2.1 30 = .ok (.putfield 109, 3) := by decide +kernel
theorem dX5_readTop_33 : decode kX5_readTop.2.1 33 = .ok (.aload_n 0, 1) := by decide +kernel
theorem dX5_readTop_34 : decode kX5_readTop.2.1 34 = .ok (.sipush 1004, 3) := by decide +kernel
theorem dX5_readTop_37 : decode kX5_readTop.2.1 37 = .ok (.invokevirtual 52, 3) := by decide +kernel
theorem dX5_readTop_40 : decode kX5_readTop.2.1 40 = .ok (.aload_n 1, 1) := by decide +kernel
theorem dX5_readTop_41 : decode kX5_readTop.2.1 41 = .ok (.aload_n 0, 1) := by decide +kernel
theorem dX5_readTop_42 : decode kX5_readTop.2.1 42 = .ok (.iconst 0, 1) := by decide +kernel
theorem dX5_readTop_43 : decode kX5_readTop.2.1 43 = .ok (.bipush 99, 2) := by decide +kernel
theorem dX5_readTop_45 : decode kX5_readTop.2.1 45 = .ok (.invokevirtual 56, 3) := by decide +kernel
theorem dX5_readTop_48 : decode kX5_readTop.2.1 48 = .ok (.putfield 112, 3) := by decide +kernel
theorem dX5_readTop_51 : decode kX5_readTop.2.1 51 = .ok (.return_, 1) := by decide +kernel
theorem dX5_readShooter_0 : decode kX5_readShooter.2.1 0 = .ok (.aload_n 1, 1) := by decide +kernel
theorem dX5_readShooter_1 : decode kX5_readShooter.2.1 1 = .ok (.getfield 115, 3) := by decide +kernel
theorem dX5_readShooter_4 : decode kX5_readShooter.2.1 4 = .ok (.iconst 4, 1) := by decide +kernel
theorem dX5_readShooter_5 : decode kX5_readShooter.2.1 5 = .ok (.if_icmp .lt 8, 3) := by decide +kernel
theorem dX5_readShooter_8 : decode kX5_readShooter.2.1 8 = .ok (.aload_n 0, 1) := by decide +kernel
theorem dX5_readShooter_9 : decode kX5_readShooter.2.1 9 = .ok (.iconst 4, 1) := by decide +kernel
theorem dX5_readShooter_10 : decode kX5_readShooter.2.1 10 = .ok (.invokevirtual 79, 3) := by decide +kernel
theorem dX5_readShooter_13 : decode kX5_readShooter.2.1 13 = .ok (.aload_n 0, 1) := by decide +kernel
theorem dX5_readShooter_14 : decode kX5_readShooter.2.1 14 = .ok (.invokevirtual 76, 3) := by decide +kernel
theorem dX5_readShooter_17 : decode kX5_readShooter.2.1 17 = .ok (.aload_n 0, 1) := by decide +kernel
theorem dX5_readShooter_18 : decode kX5_readShooter.2.1 18 = .ok (.sipush 1006, 3) := by decide +kernel
theorem dX5_readShooter_21 : decode kX5_readShooter.2.1 21 = .ok (.invokevirtual 52, 3) := by decide +kernel
theorem dX5_readShooter_24 : decode kX5_readShooter.2.1 24 = .ok (.aload_n 1, 1) := by decide +kernel
theorem dX5_readShooter_25 : decode kX5_readShooter.2.1 25 = .ok (.aload_n 0, 1) := by decide +kernel
theorem dX5_readShooter_26 : decode kX5_readShooter.2.1 26 = .ok (.iconst 0, 1) := by decide +kernel
theorem dX5_readShooter_27 : decode kX5_readShooter.2.1 27 = .ok (.bipush 9, 2) := by decide +kernel
theorem dX5_readShooter_29 : decode kX5_readShooter.2.1 29 = .ok (.invokevirtual 56, 3) := by decide +kernel
theorem dX5_readShooter_32 : decode kX5_readShooter.2.1 32 = .ok (.invokevirtual 118, 3) := by decide +kernel
theorem dX5_readShooter_35 : decode kX5_readShooter.2.1 35 = .ok (.return_, 1) := by decide +kernel
theorem dX5_readLaw_0 : decode kX5_readLaw.2.1 0 = .ok (.aload_n 0, 1) := by decide +kernel
theorem dX5_readLaw_1 : decode kX5_readLaw.2.1 1 = .ok (.iload_n 1, 1) := by decide +kernel
theorem dX5_readLaw_2 : decode kX5_readLaw.2.1 2 = .ok (.putfield 32, 3) := by decide +kernel
theorem dX5_readLaw_5 : decode kX5_readLaw.2.1 5 = .ok (.aload_n 0, 1) := by decide +kernel
theorem dX5_readLaw_6 : decode kX5_readLaw.2.1 6 = .ok (.iconst 0, 1) := by decide +kernel
theorem dX5_readLaw_7 : decode kX5_readLaw.2.1 7 = .ok (.putfield 29, 3) := by decide +kernel
theorem dX5_readLaw_10 : decode kX5_readLaw.2.1 10 = .ok (.aload_n 0, 1) := by decide +kernel
theorem dX5_readLaw_11 : decode kX5_readLaw.2.1 11 = .ok (.invokevirtual 76, 3) := by decide +kernel
theorem dX5_readLaw_14 : decode kX5_readLaw.2.1 14 = .ok (.aload_n 0, 1) := by decide +kernel
theorem dX5_readLaw_15 : decode kX5_readLaw.2.1 15 = .ok (.sipush 2058, 3) := by decide +kernel
theorem dX5_readLaw_18 : decode kX5_readLaw.2.1 18 = .ok (.invokevirtual 52, 3) := by decide +kernel
theorem dX5_readLaw_21 : decode kX5_readLaw.2.1 21 = .ok (.iload_n 1, 1) := by decide +kernel
theorem dX5_readLaw_22 : decode kX5_readLaw.2.1 22 = .ok (.ifCond .eq 11, 3) := by decide +kernel
theorem dX5_readLaw_25 : decode kX5_readLaw.2.1 25 = .ok (.aload_n 0, 1) := by decide +kernel
theorem dX5_readLaw_26 : decode kX5_readLaw.2.1 26 = .ok (.iconst 0, 1) := by decide +kernel
theorem dX5_readLaw_27 : decode kX5_readLaw.2.1 27 = .ok (.invokevirtual 121, 3) := by decide +kernel
theorem dX5_readLaw_30 : decode kX5_readLaw.2.1 30 = .ok (.goto 8, 3) := by decide +kernel
theorem dX5_readLaw_33 : decode kX5_readLaw.2.1 33 = .ok (.aload_n 0, 1) := by decide +kernel
theorem dX5_readLaw_34 : decode kX5_readLaw.2.1 34 = .ok (.iconst 0, 1) := by decide +kernel
theorem dX5_readLaw_35 : decode kX5_readLaw.2.1 35 = .ok (.invokevirtual 124, 3) := by decide +kernel
theorem dX5_readLaw_38 : decode kX5_readLaw.2.1 38 = .ok (.new 127, 3) := by decide +kernel
theorem dX5_readLaw_41 : decode kX5_readLaw.2.1 41 = .ok (.dup, 1) := by decide +kernel
theorem dX5_readLaw_42 : decode kX5_readLaw.2.1 42 = .ok (.aload_n 0, 1) := by decide +kernel
theorem dX5_readLaw_43 : decode kX5_readLaw.2.1 43 = .ok (.getfield 25, 3) := by decide +kernel
theorem dX5_readLaw_46 : decode kX5_readLaw.2.1 46 = .ok (.aload_n 0, 1) := by decide +kernel
theorem dX5_readLaw_47 : decode kX5_readLaw.2.1 47 = .ok (.getfield 29, 3) := by decide +kernel
theorem dX5_readLaw_50 : decode kX5_readLaw.2.1 50 = .ok (.invokestatic 129, 3) := by decide +kernel
theorem dX5_readLaw_53 : decode kX5_readLaw.2.1 53 = .ok (.invokespecial 135, 3) := by decide +kernel
theorem dX5_readLaw_56 : decode kX5_readLaw.2.1 56 = .ok (.areturn, 1) := by decide +kernel
theorem dX5_put_0 : decode kX5_put.2.1 0 = .ok (.aload_n 0, 1) := by decide +kernel
theorem dX5_put_1 : decode kX5_put.2.1 1 = .ok (.getfield 29, 3) := by decide +kernel
theorem dX5_put_4 : decode kX5_put.2.1 4 = .ok (.aload_n 0, 1) := by decide +kernel
theorem dX5_put_5 : decode kX5_put.2.1 5 = .ok (.getfield 25, 3) := by decide +kernel
theorem dX5_put_8 : decode kX5_put.2.1 8 = .ok (.arraylength, 1) := by decide +kernel
theorem dX5_put_9 : decode kX5_put.2.1 9 = .ok (.if_icmp .ge 23, 3) := by decide +kernel
theorem dX5_put_12 : decode kX5_put.2.1 12 = .ok (.aload_n 0, 1) := by decide +kernel
theorem dX5_put_13 : decode kX5_put.2.1 13 = .ok (.getfield 25, 3) := by decide +kernel
theorem dX5_put_16 : decode kX5_put.2.1 16 = .ok (.aload_n 0, 1) := by decide +kernel
theorem dX5_put_17 : decode kX5_put.2.1 17 = .ok (.getfield 29, 3) := by decide +kernel
theorem dX5_put_20 : decode kX5_put.2.1 20 = .ok (.iload_n 1, 1) := by decide +kernel
theorem dX5_put_21 : decode kX5_put.2.1 21 = .ok (.iastore, 1) := by decide +kernel
theorem dX5_put_22 : decode kX5_put.2.1 22 = .ok (.aload_n 0, 1) := by decide +kernel
theorem dX5_put_23 : decode kX5_put.2.1 23 = .ok (.dup, 1) := by decide +kernel
theorem dX5_put_24 : decode kX5_put.2.1 24 = .ok (.getfield 29, 3) := by decide +kernel
theorem dX5_put_27 : decode kX5_put.2.1 27 = .ok (.iconst 1, 1) := by decide +kernel
theorem dX5_put_28 : decode kX5_put.2.1 28 = .ok (.iadd, 1) := by decide +kernel
theorem dX5_put_29 : decode kX5_put.2.1 29 = .ok (.putfield 29, 3) := by decide +kernel
theorem dX5_put_32 : decode kX5_put.2.1 32 = .ok (.return_, 1) := by decide +kernel
theorem dX5_goesWithin_0 : decode kX5_goesWithin.2.1 0 = .ok (.iload_n 1, 1) := by decide +kernel
theorem dX5_goesWithin_1 : decode kX5_goesWithin.2.1 1 = .ok (.bipush 6, 2) := by decide +kernel
theorem dX5_goesWithin_3 : decode kX5_goesWithin.2.1 3 = .ok (.if_icmp .lt 10, 3) := by decide +kernel
theorem dX5_goesWithin_6 : decode kX5_goesWithin.2.1 6 = .ok (.aload_n 0, 1) := by decide +kernel
theorem dX5_goesWithin_7 : decode kX5_goesWithin.2.1 7 = .ok (.iconst 4, 1) := by decide +kernel
theorem dX5_goesWithin_8 : decode kX5_goesWithin.2.1 8 = .ok (.invokevirtual 79, 3) := by decide +kernel
theorem dX5_goesWithin_11 : decode kX5_goesWithin.2.1 11 = .ok (.iconst 0, 1) := by decide +kernel
theorem dX5_goesWithin_12 : decode kX5_goesWithin.2.1 12 = .ok (.ireturn, 1) := by decide +kernel
theorem dX5_goesWithin_13 : decode kX5_goesWithin.2.1 13 = .ok (.aload_n 0, 1) := by decide +kernel
theorem dX5_goesWithin_14 : decode kX5_goesWithin.2.1 14 = .ok (.invokevirtual 76, 3) := by decide +kernel
theorem dX5_goesWithin_17 : decode kX5_goesWithin.2.1 17 = .ok (.iconst 1, 1) := by decide +kernel
theorem dX5_goesWithin_18 : decode kX5_goesWithin.2.1 18 = .ok (.ireturn, 1) := by decide +kernel
theorem dX5_readTruth_0 : decode kX5_readTruth.2.1 0 = .ok (.aload_n 0, 1) := by decide +kernel
theorem dX5_readTruth_1 : decode kX5_readTruth.2.1 1 = .ok (.iload_n 1, 1) := by decide +kernel
theorem dX5_readTruth_2 : decode kX5_readTruth.2.1 2 = .ok (.invokevirtual 138, 3) := by decide +kernel
theorem dX5_readTruth_5 : decode kX5_readTruth.2.1 5 = .ok (.iconst 0, 1) := by decide +kernel
theorem dX5_readTruth_6 : decode kX5_readTruth.2.1 6 = .ok (.istore_n 2, 1) := by decide +kernel
theorem dX5_readTruth_7 : decode kX5_readTruth.2.1 7 = .ok (.iload_n 2, 1) := by decide +kernel
theorem dX5_readTruth_8 : decode kX5_readTruth.2.1 8 = .ok (.sipush 900, 3) := by decide +kernel
theorem dX5_readTruth_11 : decode kX5_readTruth.2.1 11 = .ok (.if_icmp .ge 34, 3) := by decide +kernel
theorem dX5_readTruth_14 : decode kX5_readTruth.2.1 14 = .ok (.aload_n 0, 1) := by decide +kernel
theorem dX5_readTruth_15 : decode kX5_readTruth.2.1 15 = .ok (.getfield 22, 3) := by decide +kernel
theorem dX5_readTruth_18 : decode kX5_readTruth.2.1 18 = .ok (.sipush 1010, 3) := by decide +kernel
theorem dX5_readTruth_21 : decode kX5_readTruth.2.1 21 = .ok (.if_icmp .ne 24, 3) := by decide +kernel
theorem dX5_readTruth_24 : decode kX5_readTruth.2.1 24 = .ok (.aload_n 0, 1) := by decide +kernel
theorem dX5_readTruth_25 : decode kX5_readTruth.2.1 25 = .ok (.invokevirtual 76, 3) := by decide +kernel
theorem dX5_readTruth_28 : decode kX5_readTruth.2.1 28 = .ok (.aload_n 0, 1) := by decide +kernel
theorem dX5_readTruth_29 : decode kX5_readTruth.2.1 29 = .ok (.iload_n 1, 1) := by decide +kernel
theorem dX5_readTruth_30 : decode kX5_readTruth.2.1 30 = .ok (.invokevirtual 138, 3) := by decide +kernel
theorem dX5_readTruth_33 : decode kX5_readTruth.2.1 33 = .ok (.aload_n 0, 1) := by decide +kernel
theorem dX5_readTruth_34 : decode kX5_readTruth.2.1 34 = .ok (.bipush (-8), 2) := by decide +kernel
theorem dX5_readTruth_36 : decode kX5_readTruth.2.1 36 = .ok (.invokevirtual 141, 3) := by decide +kernel
theorem dX5_readTruth_39 : decode kX5_readTruth.2.1 39 = .ok (.iinc 2 1, 3) := by decide +kernel
theorem dX5_readTruth_42 : decode kX5_readTruth.2.1 42 = .ok (.goto (-35), 3) := by decide +kernel
theorem dX5_readTruth_45 : decode kX5_readTruth.2.1 45 = .ok (.return_, 1) := by decide +kernel
theorem dX5_readBoth_0 : decode kX5_readBoth.2.1 0 = .ok (.aload_n 0, 1) := by decide +kernel
theorem dX5_readBoth_1 : decode kX5_readBoth.2.1 1 = .ok (.iload_n 1, 1) := by decide +kernel
theorem dX5_readBoth_2 : decode kX5_readBoth.2.1 2 = .ok (.invokevirtual 144, 3) := by decide +kernel
theorem dX5_readBoth_5 : decode kX5_readBoth.2.1 5 = .ok (.iconst 0, 1) := by decide +kernel
theorem dX5_readBoth_6 : decode kX5_readBoth.2.1 6 = .ok (.istore_n 2, 1) := by decide +kernel
theorem dX5_readBoth_7 : decode kX5_readBoth.2.1 7 = .ok (.iload_n 2, 1) := by decide +kernel
theorem dX5_readBoth_8 : decode kX5_readBoth.2.1 8 = .ok (.sipush 900, 3) := by decide +kernel
theorem dX5_readBoth_11 : decode kX5_readBoth.2.1 11 = .ok (.if_icmp .ge 34, 3) := by decide +kernel
theorem dX5_readBoth_14 : decode kX5_readBoth.2.1 14 = .ok (.aload_n 0, 1) := by decide +kernel
theorem dX5_readBoth_15 : decode kX5_readBoth.2.1 15 = .ok (.getfield 22, 3) := by decide +kernel
theorem dX5_readBoth_18 : decode kX5_readBoth.2.1 18 = .ok (.sipush 1011, 3) := by decide +kernel
theorem dX5_readBoth_21 : decode kX5_readBoth.2.1 21 = .ok (.if_icmp .ne 24, 3) := by decide +kernel
theorem dX5_readBoth_24 : decode kX5_readBoth.2.1 24 = .ok (.aload_n 0, 1) := by decide +kernel
theorem dX5_readBoth_25 : decode kX5_readBoth.2.1 25 = .ok (.invokevirtual 76, 3) := by decide +kernel
theorem dX5_readBoth_28 : decode kX5_readBoth.2.1 28 = .ok (.aload_n 0, 1) := by decide +kernel
theorem dX5_readBoth_29 : decode kX5_readBoth.2.1 29 = .ok (.iload_n 1, 1) := by decide +kernel
theorem dX5_readBoth_30 : decode kX5_readBoth.2.1 30 = .ok (.invokevirtual 144, 3) := by decide +kernel
theorem dX5_readBoth_33 : decode kX5_readBoth.2.1 33 = .ok (.aload_n 0, 1) := by decide +kernel
theorem dX5_readBoth_34 : decode kX5_readBoth.2.1 34 = .ok (.bipush (-7), 2) := by decide +kernel
theorem dX5_readBoth_36 : decode kX5_readBoth.2.1 36 = .ok (.invokevirtual 141, 3) := by decide +kernel
theorem dX5_readBoth_39 : decode kX5_readBoth.2.1 39 = .ok (.iinc 2 1, 3) := by decide +kernel
theorem dX5_readBoth_42 : decode kX5_readBoth.2.1 42 = .ok (.goto (-35), 3) := by decide +kernel
theorem dX5_readBoth_45 : decode kX5_readBoth.2.1 45 = .ok (.return_, 1) := by decide +kernel
theorem dX5_readUnit_0 : decode kX5_readUnit.2.1 0 = .ok (.aload_n 0, 1) := by decide +kernel
theorem dX5_readUnit_1 : decode kX5_readUnit.2.1 1 = .ok (.getfield 22, 3) := by decide +kernel
theorem dX5_readUnit_4 : decode kX5_readUnit.2.1 4 = .ok (.sipush 1012, 3) := by decide +kernel
theorem dX5_readUnit_7 : decode kX5_readUnit.2.1 7 = .ok (.if_icmp .ne 27, 3) := by decide +kernel
theorem dX5_readUnit_10 : decode kX5_readUnit.2.1 10 = .ok (.aload_n 0, 1) := by decide +kernel
theorem dX5_readUnit_11 : decode kX5_readUnit.2.1 11 = .ok (.iload_n 1, 1) := by decide +kernel
theorem dX5_readUnit_12 : decode kX5_readUnit.2.1 12 = .ok (.invokevirtual 147, 3) := by decide +kernel
theorem dX5_readUnit_15 : decode kX5_readUnit.2.1 15 = .ok (.ifCond .eq 59, 3) := by decide +kernel
theorem dX5_readUnit_18 : decode kX5_readUnit.2.1 18 = .ok (.aload_n 0, 1) := by decide +kernel
theorem dX5_readUnit_19 : decode kX5_readUnit.2.1 19 = .ok (.iload_n 1, 1) := by decide +kernel
theorem dX5_readUnit_20 : decode kX5_readUnit.2.1 20 = .ok (.iconst 1, 1) := by decide +kernel
theorem dX5_readUnit_21 : decode kX5_readUnit.2.1 21 = .ok (.iadd, 1) := by decide +kernel
theorem dX5_readUnit_22 : decode kX5_readUnit.2.1 22 = .ok (.invokevirtual 144, 3) := by decide +kernel
theorem dX5_readUnit_25 : decode kX5_readUnit.2.1 25 = .ok (.aload_n 0, 1) := by decide +kernel
theorem dX5_readUnit_26 : decode kX5_readUnit.2.1 26 = .ok (.bipush (-9), 2) := by decide +kernel
theorem dX5_readUnit_28 : decode kX5_readUnit.2.1 28 = .ok (.invokevirtual 141, 3) := by decide +kernel
theorem dX5_readUnit_31 : decode kX5_readUnit.2.1 31 = .ok (.goto 43, 3) := by decide +kernel
theorem dX5_readUnit_34 : decode kX5_readUnit.2.1 34 = .ok (.aload_n 0, 1) := by decide +kernel
theorem dX5_readUnit_35 : decode kX5_readUnit.2.1 35 = .ok (.getfield 22, 3) := by decide +kernel
theorem dX5_readUnit_38 : decode kX5_readUnit.2.1 38 = .ok (.sipush 2091, 3) := by decide +kernel
theorem dX5_readUnit_41 : decode kX5_readUnit.2.1 41 = .ok (.if_icmp .ne 28, 3) := by decide +kernel
theorem dX5_readUnit_44 : decode kX5_readUnit.2.1 44 = .ok (.aload_n 0, 1) := by decide +kernel
theorem dX5_readUnit_45 : decode kX5_readUnit.2.1 45 = .ok (.iload_n 1, 1) := by decide +kernel
theorem dX5_readUnit_46 : decode kX5_readUnit.2.1 46 = .ok (.invokevirtual 147, 3) := by decide +kernel
theorem dX5_readUnit_49 : decode kX5_readUnit.2.1 49 = .ok (.ifCond .eq 25, 3) := by decide +kernel
theorem dX5_readUnit_52 : decode kX5_readUnit.2.1 52 = .ok (.aload_n 0, 1) := by decide +kernel
theorem dX5_readUnit_53 : decode kX5_readUnit.2.1 53 = .ok (.iload_n 1, 1) := by decide +kernel
theorem dX5_readUnit_54 : decode kX5_readUnit.2.1 54 = .ok (.iconst 1, 1) := by decide +kernel
theorem dX5_readUnit_55 : decode kX5_readUnit.2.1 55 = .ok (.iadd, 1) := by decide +kernel
theorem dX5_readUnit_56 : decode kX5_readUnit.2.1 56 = .ok (.invokevirtual 124, 3) := by decide +kernel
theorem dX5_readUnit_59 : decode kX5_readUnit.2.1 59 = .ok (.aload_n 0, 1) := by decide +kernel
theorem dX5_readUnit_60 : decode kX5_readUnit.2.1 60 = .ok (.sipush 2093, 3) := by decide +kernel
theorem dX5_readUnit_63 : decode kX5_readUnit.2.1 63 = .ok (.invokevirtual 52, 3) := by decide +kernel
theorem dX5_readUnit_66 : decode kX5_readUnit.2.1 66 = .ok (.goto 8, 3) := by decide +kernel
theorem dX5_readUnit_69 : decode kX5_readUnit.2.1 69 = .ok (.aload_n 0, 1) := by decide +kernel
theorem dX5_readUnit_70 : decode kX5_readUnit.2.1 70 = .ok (.iload_n 1, 1) := by decide +kernel
theorem dX5_readUnit_71 : decode kX5_readUnit.2.1 71 = .ok (.invokevirtual 151, 3) := by decide +kernel
theorem dX5_readUnit_74 : decode kX5_readUnit.2.1 74 = .ok (.return_, 1) := by decide +kernel
theorem dX5_readCompared_0 : decode kX5_readCompared.2.1 0 = .ok (.aload_n 0, 1) := by decide +kernel
theorem dX5_readCompared_1 : decode kX5_readCompared.2.1 1 = .ok (.iload_n 1, 1) := by decide +kernel
theorem dX5_readCompared_2 : decode kX5_readCompared.2.1 2 = .ok (.invokevirtual 121, 3) := by decide +kernel
theorem dX5_readCompared_5 : decode kX5_readCompared.2.1 5 = .ok (.aload_n 0, 1) := by decide +kernel
theorem dX5_readCompared_6 : decode kX5_readCompared.2.1 6 = .ok (.getfield 22, 3) := by decide +kernel
theorem dX5_readCompared_9 : decode kX5_readCompared.2.1 9 = .ok (.tableswitch 45 2060 2062 #[33, 27, 39], 27) := by decide +kernel
theorem dX5_readCompared_36 : decode kX5_readCompared.2.1 36 = .ok (.bipush (-4), 2) := by decide +kernel
theorem dX5_readCompared_38 : decode kX5_readCompared.2.1 38 = .ok (.istore_n 2, 1) := by decide +kernel
theorem dX5_readCompared_39 : decode kX5_readCompared.2.1 39 = .ok (.goto 21, 3) := by decide +kernel
theorem dX5_readCompared_42 : decode kX5_readCompared.2.1 42 = .ok (.bipush (-5), 2) := by decide +kernel
theorem dX5_readCompared_44 : decode kX5_readCompared.2.1 44 = .ok (.istore_n 2, 1) := by decide +kernel
theorem dX5_readCompared_45 : decode kX5_readCompared.2.1 45 = .ok (.goto 15, 3) := by decide +kernel
theorem dX5_readCompared_48 : decode kX5_readCompared.2.1 48 = .ok (.bipush (-6), 2) := by decide +kernel
theorem dX5_readCompared_50 : decode kX5_readCompared.2.1 50 = .ok (.istore_n 2, 1) := by decide +kernel
theorem dX5_readCompared_51 : decode kX5_readCompared.2.1 51 = .ok (.goto 9, 3) := by decide +kernel
theorem dX5_readCompared_54 : decode kX5_readCompared.2.1 54 = .ok (.aload_n 0, 1) := by decide +kernel
theorem dX5_readCompared_55 : decode kX5_readCompared.2.1 55 = .ok (.iconst 2, 1) := by decide +kernel
theorem dX5_readCompared_56 : decode kX5_readCompared.2.1 56 = .ok (.invokevirtual 79, 3) := by decide +kernel
theorem dX5_readCompared_59 : decode kX5_readCompared.2.1 59 = .ok (.return_, 1) := by decide +kernel
theorem dX5_readCompared_60 : decode kX5_readCompared.2.1 60 = .ok (.aload_n 0, 1) := by decide +kernel
theorem dX5_readCompared_61 : decode kX5_readCompared.2.1 61 = .ok (.invokevirtual 76, 3) := by decide +kernel
theorem dX5_readCompared_64 : decode kX5_readCompared.2.1 64 = .ok (.aload_n 0, 1) := by decide +kernel
theorem dX5_readCompared_65 : decode kX5_readCompared.2.1 65 = .ok (.iload_n 1, 1) := by decide +kernel
theorem dX5_readCompared_66 : decode kX5_readCompared.2.1 66 = .ok (.invokevirtual 121, 3) := by decide +kernel
theorem dX5_readCompared_69 : decode kX5_readCompared.2.1 69 = .ok (.aload_n 0, 1) := by decide +kernel
theorem dX5_readCompared_70 : decode kX5_readCompared.2.1 70 = .ok (.iload_n 2, 1) := by decide +kernel
theorem dX5_readCompared_71 : decode kX5_readCompared.2.1 71 = .ok (.invokevirtual 141, 3) := by decide +kernel
theorem dX5_readCompared_74 : decode kX5_readCompared.2.1 74 = .ok (.return_, 1) := by decide +kernel
theorem dX5_readSum_0 : decode kX5_readSum.2.1 0 = .ok (.aload_n 0, 1) := by decide +kernel
theorem dX5_readSum_1 : decode kX5_readSum.2.1 1 = .ok (.iload_n 1, 1) := by decide +kernel
theorem dX5_readSum_2 : decode kX5_readSum.2.1 2 = .ok (.invokevirtual 154, 3) := by decide +kernel
theorem dX5_readSum_5 : decode kX5_readSum.2.1 5 = .ok (.iconst 0, 1) := by decide +kernel
theorem dX5_readSum_6 : decode kX5_readSum.2.1 6 = .ok (.istore_n 2, 1) := by decide +kernel
theorem dX5_readSum_7 : decode kX5_readSum.2.1 7 = .ok (.iload_n 2, 1) := by decide +kernel
theorem dX5_readSum_8 : decode kX5_readSum.2.1 8 = .ok (.sipush 900, 3) := by decide +kernel
theorem dX5_readSum_11 : decode kX5_readSum.2.1 11 = .ok (.if_icmp .ge 60, 3) := by decide +kernel
theorem dX5_readSum_14 : decode kX5_readSum.2.1 14 = .ok (.aload_n 0, 1) := by decide +kernel
theorem dX5_readSum_15 : decode kX5_readSum.2.1 15 = .ok (.getfield 22, 3) := by decide +kernel
theorem dX5_readSum_18 : decode kX5_readSum.2.1 18 = .ok (.sipush 2043, 3) := by decide +kernel
theorem dX5_readSum_21 : decode kX5_readSum.2.1 21 = .ok (.if_icmp .eq 13, 3) := by decide +kernel
theorem dX5_readSum_24 : decode kX5_readSum.2.1 24 = .ok (.aload_n 0, 1) := by decide +kernel
theorem dX5_readSum_25 : decode kX5_readSum.2.1 25 = .ok (.getfield 22, 3) := by decide +kernel
theorem dX5_readSum_28 : decode kX5_readSum.2.1 28 = .ok (.sipush 2045, 3) := by decide +kernel
theorem dX5_readSum_31 : decode kX5_readSum.2.1 31 = .ok (.if_icmp .ne 40, 3) := by decide +kernel
theorem dX5_readSum_34 : decode kX5_readSum.2.1 34 = .ok (.aload_n 0, 1) := by decide +kernel
theorem dX5_readSum_35 : decode kX5_readSum.2.1 35 = .ok (.getfield 22, 3) := by decide +kernel
theorem dX5_readSum_38 : decode kX5_readSum.2.1 38 = .ok (.sipush 2043, 3) := by decide +kernel
theorem dX5_readSum_41 : decode kX5_readSum.2.1 41 = .ok (.if_icmp .ne 7, 3) := by decide +kernel
theorem dX5_readSum_44 : decode kX5_readSum.2.1 44 = .ok (.iconst (-1), 1) := by decide +kernel
theorem dX5_readSum_45 : decode kX5_readSum.2.1 45 = .ok (.goto 5, 3) := by decide +kernel
theorem dX5_readSum_48 : decode kX5_readSum.2.1 48 = .ok (.bipush (-2), 2) := by decide +kernel
theorem dX5_readSum_50 : decode kX5_readSum.2.1 50 = .ok (.istore_n 3, 1) := by decide +kernel
theorem dX5_readSum_51 : decode kX5_readSum.2.1 51 = .ok (.aload_n 0, 1) := by decide +kernel
theorem dX5_readSum_52 : decode kX5_readSum.2.1 52 = .ok (.invokevirtual 76, 3) := by decide +kernel
theorem dX5_readSum_55 : decode kX5_readSum.2.1 55 = .ok (.aload_n 0, 1) := by decide +kernel
theorem dX5_readSum_56 : decode kX5_readSum.2.1 56 = .ok (.iload_n 1, 1) := by decide +kernel
theorem dX5_readSum_57 : decode kX5_readSum.2.1 57 = .ok (.invokevirtual 154, 3) := by decide +kernel
theorem dX5_readSum_60 : decode kX5_readSum.2.1 60 = .ok (.aload_n 0, 1) := by decide +kernel
theorem dX5_readSum_61 : decode kX5_readSum.2.1 61 = .ok (.iload_n 3, 1) := by decide +kernel
theorem dX5_readSum_62 : decode kX5_readSum.2.1 62 = .ok (.invokevirtual 141, 3) := by decide +kernel
theorem dX5_readSum_65 : decode kX5_readSum.2.1 65 = .ok (.iinc 2 1, 3) := by decide +kernel
theorem dX5_readSum_68 : decode kX5_readSum.2.1 68 = .ok (.goto (-61), 3) := by decide +kernel
theorem dX5_readSum_71 : decode kX5_readSum.2.1 71 = .ok (.return_, 1) := by decide +kernel
theorem dX5_readTerm_0 : decode kX5_readTerm.2.1 0 = .ok (.aload_n 0, 1) := by decide +kernel
theorem dX5_readTerm_1 : decode kX5_readTerm.2.1 1 = .ok (.iload_n 1, 1) := by decide +kernel
theorem dX5_readTerm_2 : decode kX5_readTerm.2.1 2 = .ok (.invokevirtual 157, 3) := by decide +kernel
theorem dX5_readTerm_5 : decode kX5_readTerm.2.1 5 = .ok (.iconst 0, 1) := by decide +kernel
theorem dX5_readTerm_6 : decode kX5_readTerm.2.1 6 = .ok (.istore_n 2, 1) := by decide +kernel
theorem dX5_readTerm_7 : decode kX5_readTerm.2.1 7 = .ok (.iload_n 2, 1) := by decide +kernel
theorem dX5_readTerm_8 : decode kX5_readTerm.2.1 8 = .ok (.sipush 900, 3) := by decide +kernel
theorem dX5_readTerm_11 : decode kX5_readTerm.2.1 11 = .ok (.if_icmp .ge 34, 3) := by decide +kernel
theorem dX5_readTerm_14 : decode kX5_readTerm.2.1 14 = .ok (.aload_n 0, 1) := by decide +kernel
theorem dX5_readTerm_15 : decode kX5_readTerm.2.1 15 = .ok (.getfield 22, 3) := by decide +kernel
theorem dX5_readTerm_18 : decode kX5_readTerm.2.1 18 = .ok (.sipush 2042, 3) := by decide +kernel
theorem dX5_readTerm_21 : decode kX5_readTerm.2.1 21 = .ok (.if_icmp .ne 24, 3) := by decide +kernel
theorem dX5_readTerm_24 : decode kX5_readTerm.2.1 24 = .ok (.aload_n 0, 1) := by decide +kernel
theorem dX5_readTerm_25 : decode kX5_readTerm.2.1 25 = .ok (.invokevirtual 76, 3) := by decide +kernel
theorem dX5_readTerm_28 : decode kX5_readTerm.2.1 28 = .ok (.aload_n 0, 1) := by decide +kernel
theorem dX5_readTerm_29 : decode kX5_readTerm.2.1 29 = .ok (.iload_n 1, 1) := by decide +kernel
theorem dX5_readTerm_30 : decode kX5_readTerm.2.1 30 = .ok (.invokevirtual 157, 3) := by decide +kernel
theorem dX5_readTerm_33 : decode kX5_readTerm.2.1 33 = .ok (.aload_n 0, 1) := by decide +kernel
theorem dX5_readTerm_34 : decode kX5_readTerm.2.1 34 = .ok (.bipush (-3), 2) := by decide +kernel
theorem dX5_readTerm_36 : decode kX5_readTerm.2.1 36 = .ok (.invokevirtual 141, 3) := by decide +kernel
theorem dX5_readTerm_39 : decode kX5_readTerm.2.1 39 = .ok (.iinc 2 1, 3) := by decide +kernel
theorem dX5_readTerm_42 : decode kX5_readTerm.2.1 42 = .ok (.goto (-35), 3) := by decide +kernel
theorem dX5_readTerm_45 : decode kX5_readTerm.2.1 45 = .ok (.return_, 1) := by decide +kernel
theorem dX5_readAtom_0 : decode kX5_readAtom.2.1 0 = .ok (.aload_n 0, 1) := by decide +kernel
theorem dX5_readAtom_1 : decode kX5_readAtom.2.1 1 = .ok (.invokevirtual 160, 3) := by decide +kernel
theorem dX5_readAtom_4 : decode kX5_readAtom.2.1 4 = .ok (.istore_n 2, 1) := by decide +kernel
theorem dX5_readAtom_5 : decode kX5_readAtom.2.1 5 = .ok (.iload_n 2, 1) := by decide +kernel
theorem dX5_readAtom_6 : decode kX5_readAtom.2.1 6 = .ok (.iconst (-1), 1) := by decide +kernel
theorem dX5_readAtom_7 : decode kX5_readAtom.2.1 7 = .ok (.if_icmp .eq 18, 3) := by decide +kernel
theorem dX5_readAtom_10 : decode kX5_readAtom.2.1 10 = .ok (.aload_n 0, 1) := by decide +kernel
theorem dX5_readAtom_11 : decode kX5_readAtom.2.1 11 = .ok (.bipush (-11), 2) := by decide +kernel
theorem dX5_readAtom_13 : decode kX5_readAtom.2.1 13 = .ok (.iload_n 2, 1) := by decide +kernel
theorem dX5_readAtom_14 : decode kX5_readAtom.2.1 14 = .ok (.isub, 1) := by decide +kernel
theorem dX5_readAtom_15 : decode kX5_readAtom.2.1 15 = .ok (.invokevirtual 141, 3) := by decide +kernel
theorem dX5_readAtom_18 : decode kX5_readAtom.2.1 18 = .ok (.aload_n 0, 1) := by decide +kernel
theorem dX5_readAtom_19 : decode kX5_readAtom.2.1 19 = .ok (.invokevirtual 76, 3) := by decide +kernel
theorem dX5_readAtom_22 : decode kX5_readAtom.2.1 22 = .ok (.goto 93, 3) := by decide +kernel
theorem dX5_readAtom_25 : decode kX5_readAtom.2.1 25 = .ok (.aload_n 0, 1) := by decide +kernel
theorem dX5_readAtom_26 : decode kX5_readAtom.2.1 26 = .ok (.invokevirtual 82, 3) := by decide +kernel
theorem dX5_readAtom_29 : decode kX5_readAtom.2.1 29 = .ok (.ifCond .eq 18, 3) := by decide +kernel
theorem dX5_readAtom_32 : decode kX5_readAtom.2.1 32 = .ok (.aload_n 0, 1) := by decide +kernel
theorem dX5_readAtom_33 : decode kX5_readAtom.2.1 33 = .ok (.aload_n 0, 1) := by decide +kernel
theorem dX5_readAtom_34 : decode kX5_readAtom.2.1 34 = .ok (.getfield 22, 3) := by decide +kernel
theorem dX5_readAtom_37 : decode kX5_readAtom.2.1 37 = .ok (.invokevirtual 141, 3) := by decide +kernel
theorem dX5_readAtom_40 : decode kX5_readAtom.2.1 40 = .ok (.aload_n 0, 1) := by decide +kernel
theorem dX5_readAtom_41 : decode kX5_readAtom.2.1 41 = .ok (.invokevirtual 76, 3) := by decide +kernel
theorem dX5_readAtom_44 : decode kX5_readAtom.2.1 44 = .ok (.goto 71, 3) := by decide +kernel
theorem dX5_readAtom_47 : decode kX5_readAtom.2.1 47 = .ok (.aload_n 0, 1) := by decide +kernel
theorem dX5_readAtom_48 : decode kX5_readAtom.2.1 48 = .ok (.getfield 22, 3) := by decide +kernel
theorem dX5_readAtom_51 : decode kX5_readAtom.2.1 51 = .ok (.sipush 2040, 3) := by decide +kernel
theorem dX5_readAtom_54 : decode kX5_readAtom.2.1 54 = .ok (.if_icmp .ne 28, 3) := by decide +kernel
theorem dX5_readAtom_57 : decode kX5_readAtom.2.1 57 = .ok (.aload_n 0, 1) := by decide +kernel
theorem dX5_readAtom_58 : decode kX5_readAtom.2.1 58 = .ok (.iload_n 1, 1) := by decide +kernel
theorem dX5_readAtom_59 : decode kX5_readAtom.2.1 59 = .ok (.invokevirtual 147, 3) := by decide +kernel
theorem dX5_readAtom_62 : decode kX5_readAtom.2.1 62 = .ok (.ifCond .eq 53, 3) := by decide +kernel
theorem dX5_readAtom_65 : decode kX5_readAtom.2.1 65 = .ok (.aload_n 0, 1) := by decide +kernel
theorem dX5_readAtom_66 : decode kX5_readAtom.2.1 66 = .ok (.iload_n 1, 1) := by decide +kernel
theorem dX5_readAtom_67 : decode kX5_readAtom.2.1 67 = .ok (.iconst 1, 1) := by decide +kernel
theorem dX5_readAtom_68 : decode kX5_readAtom.2.1 68 = .ok (.iadd, 1) := by decide +kernel
theorem dX5_readAtom_69 : decode kX5_readAtom.2.1 69 = .ok (.invokevirtual 121, 3) := by decide +kernel
theorem dX5_readAtom_72 : decode kX5_readAtom.2.1 72 = .ok (.aload_n 0, 1) := by decide +kernel
theorem dX5_readAtom_73 : decode kX5_readAtom.2.1 73 = .ok (.sipush 2041, 3) := by decide +kernel
theorem dX5_readAtom_76 : decode kX5_readAtom.2.1 76 = .ok (.invokevirtual 52, 3) := by decide +kernel
theorem dX5_readAtom_79 : decode kX5_readAtom.2.1 79 = .ok (.goto 36, 3) := by decide +kernel
theorem dX5_readAtom_82 : decode kX5_readAtom.2.1 82 = .ok (.aload_n 0, 1) := by decide +kernel
theorem dX5_readAtom_83 : decode kX5_readAtom.2.1 83 = .ok (.getfield 22, 3) := by decide +kernel
theorem dX5_readAtom_86 : decode kX5_readAtom.2.1 86 = .ok (.sipush 1013, 3) := by decide +kernel
theorem dX5_readAtom_89 : decode kX5_readAtom.2.1 89 = .ok (.if_icmp .ne 21, 3) := by decide +kernel
theorem dX5_readAtom_92 : decode kX5_readAtom.2.1 92 = .ok (.aload_n 0, 1) := by decide +kernel
theorem dX5_readAtom_93 : decode kX5_readAtom.2.1 93 = .ok (.iload_n 1, 1) := by decide +kernel
theorem dX5_readAtom_94 : decode kX5_readAtom.2.1 94 = .ok (.invokevirtual 147, 3) := by decide +kernel
theorem dX5_readAtom_97 : decode kX5_readAtom.2.1 97 = .ok (.ifCond .eq 18, 3) := by decide +kernel
theorem dX5_readAtom_100 : decode kX5_readAtom.2.1 100 = .ok (.aload_n 0, 1) := by decide +kernel
theorem dX5_readAtom_101 : decode kX5_readAtom.2.1 101 = .ok (.iload_n 1, 1) := by decide +kernel
theorem dX5_readAtom_102 : decode kX5_readAtom.2.1 102 = .ok (.iconst 1, 1) := by decide +kernel
theorem dX5_readAtom_103 : decode kX5_readAtom.2.1 103 = .ok (.iadd, 1) := by decide +kernel
theorem dX5_readAtom_104 : decode kX5_readAtom.2.1 104 = .ok (.invokevirtual 164, 3) := by decide +kernel
theorem dX5_readAtom_107 : decode kX5_readAtom.2.1 107 = .ok (.goto 8, 3) := by decide +kernel
theorem dX5_readAtom_110 : decode kX5_readAtom.2.1 110 = .ok (.aload_n 0, 1) := by decide +kernel
theorem dX5_readAtom_111 : decode kX5_readAtom.2.1 111 = .ok (.iconst 2, 1) := by decide +kernel
theorem dX5_readAtom_112 : decode kX5_readAtom.2.1 112 = .ok (.invokevirtual 79, 3) := by decide +kernel
theorem dX5_readAtom_115 : decode kX5_readAtom.2.1 115 = .ok (.return_, 1) := by decide +kernel
theorem dX5_readChoice_0 : decode kX5_readChoice.2.1 0 = .ok (.aload_n 0, 1) := by decide +kernel
theorem dX5_readChoice_1 : decode kX5_readChoice.2.1 1 = .ok (.iload_n 1, 1) := by decide +kernel
theorem dX5_readChoice_2 : decode kX5_readChoice.2.1 2 = .ok (.invokevirtual 124, 3) := by decide +kernel
theorem dX5_readChoice_5 : decode kX5_readChoice.2.1 5 = .ok (.aload_n 0, 1) := by decide +kernel
theorem dX5_readChoice_6 : decode kX5_readChoice.2.1 6 = .ok (.sipush 1014, 3) := by decide +kernel
theorem dX5_readChoice_9 : decode kX5_readChoice.2.1 9 = .ok (.invokevirtual 52, 3) := by decide +kernel
theorem dX5_readChoice_12 : decode kX5_readChoice.2.1 12 = .ok (.aload_n 0, 1) := by decide +kernel
theorem dX5_readChoice_13 : decode kX5_readChoice.2.1 13 = .ok (.iload_n 1, 1) := by decide +kernel
theorem dX5_readChoice_14 : decode kX5_readChoice.2.1 14 = .ok (.invokevirtual 121, 3) := by decide +kernel
theorem dX5_readChoice_17 : decode kX5_readChoice.2.1 17 = .ok (.aload_n 0, 1) := by decide +kernel
theorem dX5_readChoice_18 : decode kX5_readChoice.2.1 18 = .ok (.sipush 1015, 3) := by decide +kernel
theorem dX5_readChoice_21 : decode kX5_readChoice.2.1 21 = .ok (.invokevirtual 52, 3) := by decide +kernel
theorem dX5_readChoice_24 : decode kX5_readChoice.2.1 24 = .ok (.aload_n 0, 1) := by decide +kernel
theorem dX5_readChoice_25 : decode kX5_readChoice.2.1 25 = .ok (.iload_n 1, 1) := by decide +kernel
theorem dX5_readChoice_26 : decode kX5_readChoice.2.1 26 = .ok (.invokevirtual 121, 3) := by decide +kernel
theorem dX5_readChoice_29 : decode kX5_readChoice.2.1 29 = .ok (.aload_n 0, 1) := by decide +kernel
theorem dX5_readChoice_30 : decode kX5_readChoice.2.1 30 = .ok (.sipush 1016, 3) := by decide +kernel
theorem dX5_readChoice_33 : decode kX5_readChoice.2.1 33 = .ok (.invokevirtual 52, 3) := by decide +kernel
theorem dX5_readChoice_36 : decode kX5_readChoice.2.1 36 = .ok (.aload_n 0, 1) := by decide +kernel
theorem dX5_readChoice_37 : decode kX5_readChoice.2.1 37 = .ok (.bipush (-10), 2) := by decide +kernel
theorem dX5_readChoice_39 : decode kX5_readChoice.2.1 39 = .ok (.invokevirtual 141, 3) := by decide +kernel
theorem dX5_readChoice_42 : decode kX5_readChoice.2.1 42 = .ok (.return_, 1) := by decide +kernel
theorem dX5_lawWord_0 : decode kX5_lawWord.2.1 0 = .ok (.aload_n 0, 1) := by decide +kernel
theorem dX5_lawWord_1 : decode kX5_lawWord.2.1 1 = .ok (.getfield 22, 3) := by decide +kernel
theorem dX5_lawWord_4 : decode kX5_lawWord.2.1 4 = .ok (.tableswitch 161 1006 1021 #[95, 80, 161, 161, 161, 161, 161, 161, 161, 161, 161, 82, 108, 121, 134, 147], 80) := by decide +kernel
theorem dX5_lawWord_84 : decode kX5_lawWord.2.1 84 = .ok (.iconst 4, 1) := by decide +kernel
theorem dX5_lawWord_85 : decode kX5_lawWord.2.1 85 = .ok (.ireturn, 1) := by decide +kernel
theorem dX5_lawWord_86 : decode kX5_lawWord.2.1 86 = .ok (.aload_n 0, 1) := by decide +kernel
theorem dX5_lawWord_87 : decode kX5_lawWord.2.1 87 = .ok (.getfield 32, 3) := by decide +kernel
theorem dX5_lawWord_90 : decode kX5_lawWord.2.1 90 = .ok (.ifCond .eq 7, 3) := by decide +kernel
theorem dX5_lawWord_93 : decode kX5_lawWord.2.1 93 = .ok (.iconst 0, 1) := by decide +kernel
theorem dX5_lawWord_94 : decode kX5_lawWord.2.1 94 = .ok (.goto 4, 3) := by decide +kernel
theorem dX5_lawWord_97 : decode kX5_lawWord.2.1 97 = .ok (.iconst (-1), 1) := by decide +kernel
theorem dX5_lawWord_98 : decode kX5_lawWord.2.1 98 = .ok (.ireturn, 1) := by decide +kernel
theorem dX5_lawWord_99 : decode kX5_lawWord.2.1 99 = .ok (.aload_n 0, 1) := by decide +kernel
theorem dX5_lawWord_100 : decode kX5_lawWord.2.1 100 = .ok (.getfield 32, 3) := by decide +kernel
theorem dX5_lawWord_103 : decode kX5_lawWord.2.1 103 = .ok (.ifCond .eq 7, 3) := by decide +kernel
theorem dX5_lawWord_106 : decode kX5_lawWord.2.1 106 = .ok (.iconst 1, 1) := by decide +kernel
theorem dX5_lawWord_107 : decode kX5_lawWord.2.1 107 = .ok (.goto 4, 3) := by decide +kernel
theorem dX5_lawWord_110 : decode kX5_lawWord.2.1 110 = .ok (.iconst (-1), 1) := by decide +kernel
theorem dX5_lawWord_111 : decode kX5_lawWord.2.1 111 = .ok (.ireturn, 1) := by decide +kernel
theorem dX5_lawWord_112 : decode kX5_lawWord.2.1 112 = .ok (.aload_n 0, 1) := by decide +kernel
theorem dX5_lawWord_113 : decode kX5_lawWord.2.1 113 = .ok (.getfield 32, 3) := by decide +kernel
theorem dX5_lawWord_116 : decode kX5_lawWord.2.1 116 = .ok (.ifCond .eq 7, 3) := by decide +kernel
theorem dX5_lawWord_119 : decode kX5_lawWord.2.1 119 = .ok (.iconst 2, 1) := by decide +kernel
theorem dX5_lawWord_120 : decode kX5_lawWord.2.1 120 = .ok (.goto 4, 3) := by decide +kernel
theorem dX5_lawWord_123 : decode kX5_lawWord.2.1 123 = .ok (.iconst (-1), 1) := by decide +kernel
theorem dX5_lawWord_124 : decode kX5_lawWord.2.1 124 = .ok (.ireturn, 1) := by decide +kernel
theorem dX5_lawWord_125 : decode kX5_lawWord.2.1 125 = .ok (.aload_n 0, 1) := by decide +kernel
theorem dX5_lawWord_126 : decode kX5_lawWord.2.1 126 = .ok (.getfield 32, 3) := by decide +kernel
theorem dX5_lawWord_129 : decode kX5_lawWord.2.1 129 = .ok (.ifCond .eq 7, 3) := by decide +kernel
theorem dX5_lawWord_132 : decode kX5_lawWord.2.1 132 = .ok (.iconst 3, 1) := by decide +kernel
theorem dX5_lawWord_133 : decode kX5_lawWord.2.1 133 = .ok (.goto 4, 3) := by decide +kernel
theorem dX5_lawWord_136 : decode kX5_lawWord.2.1 136 = .ok (.iconst (-1), 1) := by decide +kernel
theorem dX5_lawWord_137 : decode kX5_lawWord.2.1 137 = .ok (.ireturn, 1) := by decide +kernel
theorem dX5_lawWord_138 : decode kX5_lawWord.2.1 138 = .ok (.aload_n 0, 1) := by decide +kernel
theorem dX5_lawWord_139 : decode kX5_lawWord.2.1 139 = .ok (.getfield 32, 3) := by decide +kernel
theorem dX5_lawWord_142 : decode kX5_lawWord.2.1 142 = .ok (.ifCond .eq 7, 3) := by decide +kernel
theorem dX5_lawWord_145 : decode kX5_lawWord.2.1 145 = .ok (.iconst (-1), 1) := by decide +kernel
theorem dX5_lawWord_146 : decode kX5_lawWord.2.1 146 = .ok (.goto 4, 3) := by decide +kernel
theorem dX5_lawWord_149 : decode kX5_lawWord.2.1 149 = .ok (.iconst 5, 1) := by decide +kernel
theorem dX5_lawWord_150 : decode kX5_lawWord.2.1 150 = .ok (.ireturn, 1) := by decide +kernel
theorem dX5_lawWord_151 : decode kX5_lawWord.2.1 151 = .ok (.aload_n 0, 1) := by decide +kernel
theorem dX5_lawWord_152 : decode kX5_lawWord.2.1 152 = .ok (.getfield 32, 3) := by decide +kernel
theorem dX5_lawWord_155 : decode kX5_lawWord.2.1 155 = .ok (.ifCond .eq 7, 3) := by decide +kernel
theorem dX5_lawWord_158 : decode kX5_lawWord.2.1 158 = .ok (.iconst (-1), 1) := by decide +kernel
theorem dX5_lawWord_159 : decode kX5_lawWord.2.1 159 = .ok (.goto 5, 3) := by decide +kernel
theorem dX5_lawWord_162 : decode kX5_lawWord.2.1 162 = .ok (.bipush 6, 2) := by decide +kernel
theorem dX5_lawWord_164 : decode kX5_lawWord.2.1 164 = .ok (.ireturn, 1) := by decide +kernel
theorem dX5_lawWord_165 : decode kX5_lawWord.2.1 165 = .ok (.iconst (-1), 1) := by decide +kernel
theorem dX5_lawWord_166 : decode kX5_lawWord.2.1 166 = .ok (.ireturn, 1) := by decide +kernel
theorem dX6_init_0 : decode kX6_init.2.1 0 = .ok (.aload_n 0, 1) := by decide +kernel
theorem dX6_init_1 : decode kX6_init.2.1 1 = .ok (.invokespecial 3, 3) := by decide +kernel
theorem dX6_init_4 : decode kX6_init.2.1 4 = .ok (.aload_n 0, 1) := by decide +kernel
theorem dX6_init_5 : decode kX6_init.2.1 5 = .ok (.bipush 36, 2) := by decide +kernel
theorem dX6_init_7 : decode kX6_init.2.1 7 = .ok (.newarray .long, 2) := by decide +kernel
theorem dX6_init_9 : decode kX6_init.2.1 9 = .ok (.putfield 11, 3) := by decide +kernel
theorem dX6_init_12 : decode kX6_init.2.1 12 = .ok (.aload_n 0, 1) := by decide +kernel
theorem dX6_init_13 : decode kX6_init.2.1 13 = .ok (.lconst 1, 1) := by decide +kernel
theorem dX6_init_14 : decode kX6_init.2.1 14 = .ok (.putfield 15, 3) := by decide +kernel
theorem dX6_init_17 : decode kX6_init.2.1 17 = .ok (.aload_n 0, 1) := by decide +kernel
theorem dX6_init_18 : decode kX6_init.2.1 18 = .ok (.iconst (-1), 1) := by decide +kernel
theorem dX6_init_19 : decode kX6_init.2.1 19 = .ok (.putfield 19, 3) := by decide +kernel
theorem dX6_init_22 : decode kX6_init.2.1 22 = .ok (.return_, 1) := by decide +kernel
theorem dX6_begin_0 : decode kX6_begin.2.1 0 = .ok (.aload_n 0, 1) := by decide +kernel
theorem dX6_begin_1 : decode kX6_begin.2.1 1 = .ok (.getfield 11, 3) := by decide +kernel
theorem dX6_begin_4 : decode kX6_begin.2.1 4 = .ok (.lconst 0, 1) := by decide +kernel
theorem dX6_begin_5 : decode kX6_begin.2.1 5 = .ok (.invokestatic 23, 3) := by decide +kernel
theorem dX6_begin_8 : decode kX6_begin.2.1 8 = .ok (.aload_n 0, 1) := by decide +kernel
theorem dX6_begin_9 : decode kX6_begin.2.1 9 = .ok (.lconst 1, 1) := by decide +kernel
theorem dX6_begin_10 : decode kX6_begin.2.1 10 = .ok (.putfield 15, 3) := by decide +kernel
theorem dX6_begin_13 : decode kX6_begin.2.1 13 = .ok (.aload_n 0, 1) := by decide +kernel
theorem dX6_begin_14 : decode kX6_begin.2.1 14 = .ok (.iconst (-1), 1) := by decide +kernel
theorem dX6_begin_15 : decode kX6_begin.2.1 15 = .ok (.putfield 19, 3) := by decide +kernel
theorem dX6_begin_18 : decode kX6_begin.2.1 18 = .ok (.return_, 1) := by decide +kernel
theorem dX6_worth_0 : decode kX6_worth.2.1 0 = .ok (.iload_n 1, 1) := by decide +kernel
theorem dX6_worth_1 : decode kX6_worth.2.1 1 = .ok (.ifCond .lt 23, 3) := by decide +kernel
theorem dX6_worth_4 : decode kX6_worth.2.1 4 = .ok (.iload_n 1, 1) := by decide +kernel
theorem dX6_worth_5 : decode kX6_worth.2.1 5 = .ok (.bipush 6, 2) := by decide +kernel
theorem dX6_worth_7 : decode kX6_worth.2.1 7 = .ok (.if_icmp .ge 17, 3) := by decide +kernel
theorem dX6_worth_10 : decode kX6_worth.2.1 10 = .ok (.iload_n 2, 1) := by decide +kernel
theorem dX6_worth_11 : decode kX6_worth.2.1 11 = .ok (.ifCond .lt 13, 3) := by decide +kernel
theorem dX6_worth_14 : decode kX6_worth.2.1 14 = .ok (.iload_n 2, 1) := by decide +kernel
theorem dX6_worth_15 : decode kX6_worth.2.1 15 = .ok (.bipush 6, 2) := by decide +kernel
theorem dX6_worth_17 : decode kX6_worth.2.1 17 = .ok (.if_icmp .ge 7, 3) := by decide +kernel
theorem dX6_worth_20 : decode kX6_worth.2.1 20 = .ok (.iconst 1, 1) := by decide +kernel
theorem dX6_worth_21 : decode kX6_worth.2.1 21 = .ok (.goto 4, 3) := by decide +kernel
theorem dX6_worth_24 : decode kX6_worth.2.1 24 = .ok (.iconst 0, 1) := by decide +kernel
theorem dX6_worth_25 : decode kX6_worth.2.1 25 = .ok (.istore_n 3, 1) := by decide +kernel
theorem dX6_worth_26 : decode kX6_worth.2.1 26 = .ok (.iload_n 3, 1) := by decide +kernel
theorem dX6_worth_27 : decode kX6_worth.2.1 27 = .ok (.ifCond .eq 17, 3) := by decide +kernel
theorem dX6_worth_30 : decode kX6_worth.2.1 30 = .ok (.aload_n 0, 1) := by decide +kernel
theorem dX6_worth_31 : decode kX6_worth.2.1 31 = .ok (.getfield 11, 3) := by decide +kernel
theorem dX6_worth_34 : decode kX6_worth.2.1 34 = .ok (.iload_n 1, 1) := by decide +kernel
theorem dX6_worth_35 : decode kX6_worth.2.1 35 = .ok (.bipush 6, 2) := by decide +kernel
theorem dX6_worth_37 : decode kX6_worth.2.1 37 = .ok (.imul, 1) := by decide +kernel
theorem dX6_worth_38 : decode kX6_worth.2.1 38 = .ok (.iload_n 2, 1) := by decide +kernel
theorem dX6_worth_39 : decode kX6_worth.2.1 39 = .ok (.iadd, 1) := by decide +kernel
theorem dX6_worth_40 : decode kX6_worth.2.1 40 = .ok (.laload, 1) := by decide +kernel
theorem dX6_worth_41 : decode kX6_worth.2.1 41 = .ok (.goto 4, 3) := by decide +kernel
theorem dX6_worth_44 : decode kX6_worth.2.1 44 = .ok (.lconst 0, 1) := by decide +kernel
theorem dX6_worth_45 : decode kX6_worth.2.1 45 = .ok (.lreturn, 1) := by decide +kernel
theorem dX6_settle_0 : decode kX6_settle.2.1 0 = .ok (.iload_n 2, 1) := by decide +kernel
theorem dX6_settle_1 : decode kX6_settle.2.1 1 = .ok (.ifCond .lt 19, 3) := by decide +kernel
theorem dX6_settle_4 : decode kX6_settle.2.1 4 = .ok (.iload_n 2, 1) := by decide +kernel
theorem dX6_settle_5 : decode kX6_settle.2.1 5 = .ok (.bipush 6, 2) := by decide +kernel
theorem dX6_settle_7 : decode kX6_settle.2.1 7 = .ok (.if_icmp .ge 13, 3) := by decide +kernel
theorem dX6_settle_10 : decode kX6_settle.2.1 10 = .ok (.iload_n 3, 1) := by decide +kernel
theorem dX6_settle_11 : decode kX6_settle.2.1 11 = .ok (.ifCond .lt 9, 3) := by decide +kernel
theorem dX6_settle_14 : decode kX6_settle.2.1 14 = .ok (.iload_n 3, 1) := by decide +kernel
theorem dX6_settle_15 : decode kX6_settle.2.1 15 = .ok (.bipush 6, 2) := by decide +kernel
theorem dX6_settle_17 : decode kX6_settle.2.1 17 = .ok (.if_icmp .lt 4, 3) := by decide +kernel
theorem dX6_settle_20 : decode kX6_settle.2.1 20 = .ok (.return_, 1) := by decide +kernel
theorem dX6_settle_21 : decode kX6_settle.2.1 21 = .ok (.aload_n 0, 1) := by decide +kernel
theorem dX6_settle_22 : decode kX6_settle.2.1 22 = .ok (.iload_n 2, 1) := by decide +kernel
theorem dX6_settle_23 : decode kX6_settle.2.1 23 = .ok (.iconst 1, 1) := by decide +kernel
theorem dX6_settle_24 : decode kX6_settle.2.1 24 = .ok (.iadd, 1) := by decide +kernel
theorem dX6_settle_25 : decode kX6_settle.2.1 25 = .ok (.iload_n 3, 1) := by decide +kernel
theorem dX6_settle_26 : decode kX6_settle.2.1 26 = .ok (.invokevirtual 29, 3) := by decide +kernel
theorem dX6_settle_29 : decode kX6_settle.2.1 29 = .ok (.lstore 6, 2) := by decide +kernel
theorem dX6_settle_31 : decode kX6_settle.2.1 31 = .ok (.iload 4, 2) := by decide +kernel
theorem dX6_settle_33 : decode kX6_settle.2.1 33 = .ok (.ifCond .eq 16, 3) := by decide +kernel
theorem dX6_settle_36 : decode kX6_settle.2.1 36 = .ok (.aload_n 0, 1) := by decide +kernel
theorem dX6_settle_37 : decode kX6_settle.2.1 37 = .ok (.iload_n 2, 1) := by decide +kernel
theorem dX6_settle_38 : decode kX6_settle.2.1 38 = .ok (.iconst 1, 1) := by decide +kernel
theorem dX6_settle_39 : decode kX6_settle.2.1 39 = .ok (.iadd, 1) := by decide +kernel
theorem dX6_settle_40 : decode kX6_settle.2.1 40 = .ok (.iload_n 3, 1) := by decide +kernel
theorem dX6_settle_41 : decode kX6_settle.2.1 41 = .ok (.iconst 1, 1) := by decide +kernel
theorem dX6_settle_42 : decode kX6_settle.2.1 42 = .ok (.iadd, 1) := by decide +kernel
theorem dX6_settle_43 : decode kX6_settle.2.1 43 = .ok (.invokevirtual 29, 3) := by decide +kernel
theorem dX6_settle_46 : decode kX6_settle.2.1 46 = .ok (.goto 5, 3) := by decide +kernel
theorem dX6_settle_49 : decode kX6_settle.2.1 49 = .ok (.lload 6, 2) := by decide +kernel
theorem dX6_settle_51 : decode kX6_settle.2.1 51 = .ok (.lstore 8, 2) := by decide +kernel
theorem dX6_settle_53 : decode kX6_settle.2.1 53 = .ok (.lconst 0, 1) := by decide +kernel
theorem dX6_settle_54 : decode kX6_settle.2.1 54 = .ok (.lstore 10, 2) := by decide +kernel
theorem dX6_settle_56 : decode kX6_settle.2.1 56 = .ok (.aload_n 0, 1) := by decide +kernel
theorem dX6_settle_57 : decode kX6_settle.2.1 57 = .ok (.iconst (-1), 1) := by decide +kernel
theorem dX6_settle_58 : decode kX6_settle.2.1 58 = .ok (.putfield 19, 3) := by decide +kernel
theorem dX6_settle_61 : decode kX6_settle.2.1 61 = .ok (.iconst 0, 1) := by decide +kernel
theorem dX6_settle_62 : decode kX6_settle.2.1 62 = .ok (.istore 12, 2) := by decide +kernel
theorem dX6_settle_64 : decode kX6_settle.2.1 64 = .ok (.iload 12, 2) := by decide +kernel
theorem dX6_settle_66 : decode kX6_settle.2.1 66 = .ok (.bipush 21, 2) := by decide +kernel
theorem dX6_settle_68 : decode kX6_settle.2.1 68 = .ok (.if_icmp .ge 85, 3) := by decide +kernel
theorem dX6_settle_71 : decode kX6_settle.2.1 71 = .ok (.aload_n 1, 1) := by decide +kernel
theorem dX6_settle_72 : decode kX6_settle.2.1 72 = .ok (.iload 12, 2) := by decide +kernel
theorem dX6_settle_74 : decode kX6_settle.2.1 74 = .ok (.invokevirtual 33, 3) := by decide +kernel
theorem dX6_settle_77 : decode kX6_settle.2.1 77 = .ok (.istore 13, 2) := by decide +kernel
theorem dX6_settle_79 : decode kX6_settle.2.1 79 = .ok (.aload_n 1, 1) := by decide +kernel
theorem dX6_settle_80 : decode kX6_settle.2.1 80 = .ok (.iload 12, 2) := by decide +kernel
theorem dX6_settle_82 : decode kX6_settle.2.1 82 = .ok (.iload 4, 2) := by decide +kernel
theorem dX6_settle_84 : decode kX6_settle.2.1 84 = .ok (.ifCond .eq 8, 3) := by decide +kernel
theorem dX6_settle_87 : decode kX6_settle.2.1 87 = .ok (.iload 5, 2) := by decide +kernel
theorem dX6_settle_89 : decode kX6_settle.2.1 89 = .ok (.goto 4, 3) := by decide +kernel
theorem dX6_settle_92 : decode kX6_settle.2.1 92 = .ok (.iconst 0, 1) := by decide +kernel
theorem dX6_settle_93 : decode kX6_settle.2.1 93 = .ok (.invokevirtual 39, 3) := by decide +kernel
theorem dX6_settle_96 : decode kX6_settle.2.1 96 = .ok (.i2l, 1) := by decide +kernel
theorem dX6_settle_97 : decode kX6_settle.2.1 97 = .ok (.aload_n 0, 1) := by decide +kernel
theorem dX6_settle_98 : decode kX6_settle.2.1 98 = .ok (.getfield 15, 3) := by decide +kernel
theorem dX6_settle_101 : decode kX6_settle.2.1 101 = .ok (.lmul, 1) := by decide +kernel
theorem dX6_settle_102 : decode kX6_settle.2.1 102 = .ok (.bipush 10, 2) := by decide +kernel
theorem dX6_settle_104 : decode kX6_settle.2.1 104 = .ok (.iload 13, 2) := by decide +kernel
theorem dX6_settle_106 : decode kX6_settle.2.1 106 = .ok (.isub, 1) := by decide +kernel
theorem dX6_settle_107 : decode kX6_settle.2.1 107 = .ok (.i2l, 1) := by decide +kernel
theorem dX6_settle_108 : decode kX6_settle.2.1 108 = .ok (.lload 6, 2) := by decide +kernel
theorem dX6_settle_110 : decode kX6_settle.2.1 110 = .ok (.lmul, 1) := by decide +kernel
theorem dX6_settle_111 : decode kX6_settle.2.1 111 = .ok (.ladd, 1) := by decide +kernel
theorem dX6_settle_112 : decode kX6_settle.2.1 112 = .ok (.iload 13, 2) := by decide +kernel
theorem dX6_settle_114 : decode kX6_settle.2.1 114 = .ok (.i2l, 1) := by decide +kernel
theorem dX6_settle_115 : decode kX6_settle.2.1 115 = .ok (.lload 8, 2) := by decide +kernel
theorem dX6_settle_117 : decode kX6_settle.2.1 117 = .ok (.lmul, 1) := by decide +kernel
theorem dX6_settle_118 : decode kX6_settle.2.1 118 = .ok (.ladd, 1) := by decide +kernel
theorem dX6_settle_119 : decode kX6_settle.2.1 119 = .ok (.lstore 14, 2) := by decide +kernel
theorem dX6_settle_121 : decode kX6_settle.2.1 121 = .ok (.aload_n 0, 1) := by decide +kernel
theorem dX6_settle_122 : decode kX6_settle.2.1 122 = .ok (.getfield 19, 3) := by decide +kernel
theorem dX6_settle_125 : decode kX6_settle.2.1 125 = .ok (.iconst (-1), 1) := by decide +kernel
theorem dX6_settle_126 : decode kX6_settle.2.1 126 = .ok (.if_icmp .eq 11, 3) := by decide +kernel
theorem dX6_settle_129 : decode kX6_settle.2.1 129 = .ok (.lload 14, 2) := by decide +kernel
theorem dX6_settle_131 : decode kX6_settle.2.1 131 = .ok (.lload 10, 2) := by decide +kernel
theorem dX6_settle_133 : decode kX6_settle.2.1 133 = .ok (.lcmp, 1) := by decide +kernel
theorem dX6_settle_134 : decode kX6_settle.2.1 134 = .ok (.ifCond .le 13, 3) := by decide +kernel
theorem dX6_settle_137 : decode kX6_settle.2.1 137 = .ok (.aload_n 0, 1) := by decide +kernel
theorem dX6_settle_138 : decode kX6_settle.2.1 138 = .ok (.iload 12, 2) := by decide +kernel
theorem dX6_settle_140 : decode kX6_settle.2.1 140 = .ok (.putfield 19, 3) := by decide +kernel
theorem dX6_settle_143 : decode kX6_settle.2.1 143 = .ok (.lload 14, 2) := by decide +kernel
theorem dX6_settle_145 : decode kX6_settle.2.1 145 = .ok (.lstore 10, 2) := by decide +kernel
theorem dX6_settle_147 : decode kX6_settle.2.1 147 = .ok (.iinc 12 1, 3) := by decide +kernel
theorem dX6_settle_150 : decode kX6_settle.2.1 150 = .ok (.goto (-86), 3) := by decide +kernel
theorem dX6_settle_153 : decode kX6_settle.2.1 153 = .ok (.ldc2_w 43, 3) := by decide +kernel
theorem dX6_settle_156 : decode kX6_settle.2.1 156 = .ok (.aload_n 0, 1) := by decide +kernel
theorem dX6_settle_157 : decode kX6_settle.2.1 157 = .ok (.iload_n 2, 1) := by decide +kernel
theorem dX6_settle_158 : decode kX6_settle.2.1 158 = .ok (.iload_n 3, 1) := by decide +kernel
theorem dX6_settle_159 : decode kX6_settle.2.1 159 = .ok (.invokevirtual 29, 3) := by decide +kernel
theorem dX6_settle_162 : decode kX6_settle.2.1 162 = .ok (.lmul, 1) := by decide +kernel
theorem dX6_settle_163 : decode kX6_settle.2.1 163 = .ok (.lstore 12, 2) := by decide +kernel
theorem dX6_settle_165 : decode kX6_settle.2.1 165 = .ok (.lload 12, 2) := by decide +kernel
theorem dX6_settle_167 : decode kX6_settle.2.1 167 = .ok (.lload 10, 2) := by decide +kernel
theorem dX6_settle_169 : decode kX6_settle.2.1 169 = .ok (.lcmp, 1) := by decide +kernel
theorem dX6_settle_170 : decode kX6_settle.2.1 170 = .ok (.ifCond .le 13, 3) := by decide +kernel
theorem dX6_settle_173 : decode kX6_settle.2.1 173 = .ok (.aload_n 0, 1) := by decide +kernel
theorem dX6_settle_174 : decode kX6_settle.2.1 174 = .ok (.bipush 21, 2) := by decide +kernel
theorem dX6_settle_176 : decode kX6_settle.2.1 176 = .ok (.putfield 19, 3) := by decide +kernel
theorem dX6_settle_179 : decode kX6_settle.2.1 179 = .ok (.lload 12, 2) := by decide +kernel
theorem dX6_settle_181 : decode kX6_settle.2.1 181 = .ok (.lstore 10, 2) := by decide +kernel
theorem dX6_settle_183 : decode kX6_settle.2.1 183 = .ok (.aload_n 0, 1) := by decide +kernel
theorem dX6_settle_184 : decode kX6_settle.2.1 184 = .ok (.getfield 11, 3) := by decide +kernel
theorem dX6_settle_187 : decode kX6_settle.2.1 187 = .ok (.iload_n 2, 1) := by decide +kernel
theorem dX6_settle_188 : decode kX6_settle.2.1 188 = .ok (.bipush 6, 2) := by decide +kernel
theorem dX6_settle_190 : decode kX6_settle.2.1 190 = .ok (.imul, 1) := by decide +kernel
theorem dX6_settle_191 : decode kX6_settle.2.1 191 = .ok (.iload_n 3, 1) := by decide +kernel
theorem dX6_settle_192 : decode kX6_settle.2.1 192 = .ok (.iadd, 1) := by decide +kernel
theorem dX6_settle_193 : decode kX6_settle.2.1 193 = .ok (.lload 10, 2) := by decide +kernel
theorem dX6_settle_195 : decode kX6_settle.2.1 195 = .ok (.lastore, 1) := by decide +kernel
theorem dX6_settle_196 : decode kX6_settle.2.1 196 = .ok (.return_, 1) := by decide +kernel
theorem dX7_init_0 : decode kX7_init.2.1 0 = .ok (.aload_n 0, 1) := by decide +kernel
theorem dX7_init_1 : decode kX7_init.2.1 1 = .ok (.invokespecial 3, 3) := by decide +kernel
theorem dX7_init_4 : decode kX7_init.2.1 4 = .ok (.aload_n 0, 1) := by decide +kernel
theorem dX7_init_5 : decode kX7_init.2.1 5 = .ok (.iconst 4, 1) := by decide +kernel
theorem dX7_init_6 : decode kX7_init.2.1 6 = .ok (.newarray .int, 2) := by decide +kernel
theorem dX7_init_8 : decode kX7_init.2.1 8 = .ok (.putfield 9, 3) := by decide +kernel
theorem dX7_init_11 : decode kX7_init.2.1 11 = .ok (.aload_n 0, 1) := by decide +kernel
theorem dX7_init_12 : decode kX7_init.2.1 12 = .ok (.iconst 4, 1) := by decide +kernel
theorem dX7_init_13 : decode kX7_init.2.1 13 = .ok (.newarray .int, 2) := by decide +kernel
theorem dX7_init_15 : decode kX7_init.2.1 15 = .ok (.putfield 15, 3) := by decide +kernel
theorem dX7_init_18 : decode kX7_init.2.1 18 = .ok (.aload_n 0, 1) := by decide +kernel
theorem dX7_init_19 : decode kX7_init.2.1 19 = .ok (.iconst 0, 1) := by decide +kernel
theorem dX7_init_20 : decode kX7_init.2.1 20 = .ok (.putfield 18, 3) := by decide +kernel
theorem dX7_init_23 : decode kX7_init.2.1 23 = .ok (.aload_n 0, 1) := by decide +kernel
theorem dX7_init_24 : decode kX7_init.2.1 24 = .ok (.iconst 0, 1) := by decide +kernel
theorem dX7_init_25 : decode kX7_init.2.1 25 = .ok (.putfield 22, 3) := by decide +kernel
theorem dX7_init_28 : decode kX7_init.2.1 28 = .ok (.aload_n 0, 1) := by decide +kernel
theorem dX7_init_29 : decode kX7_init.2.1 29 = .ok (.iconst 0, 1) := by decide +kernel
theorem dX7_init_30 : decode kX7_init.2.1 30 = .ok (.putfield 25, 3) := by decide +kernel
theorem dX7_init_33 : decode kX7_init.2.1 33 = .ok (.return_, 1) := by decide +kernel
theorem dX7_begin_0 : decode kX7_begin.2.1 0 = .ok (.aload_n 0, 1) := by decide +kernel
theorem dX7_begin_1 : decode kX7_begin.2.1 1 = .ok (.getfield 9, 3) := by decide +kernel
theorem dX7_begin_4 : decode kX7_begin.2.1 4 = .ok (.iconst 0, 1) := by decide +kernel
theorem dX7_begin_5 : decode kX7_begin.2.1 5 = .ok (.invokestatic 28, 3) := by decide +kernel
theorem dX7_begin_8 : decode kX7_begin.2.1 8 = .ok (.aload_n 0, 1) := by decide +kernel
theorem dX7_begin_9 : decode kX7_begin.2.1 9 = .ok (.getfield 15, 3) := by decide +kernel
theorem dX7_begin_12 : decode kX7_begin.2.1 12 = .ok (.iconst 0, 1) := by decide +kernel
theorem dX7_begin_13 : decode kX7_begin.2.1 13 = .ok (.invokestatic 28, 3) := by decide +kernel
theorem dX7_begin_16 : decode kX7_begin.2.1 16 = .ok (.aload_n 0, 1) := by decide +kernel
theorem dX7_begin_17 : decode kX7_begin.2.1 17 = .ok (.iconst 0, 1) := by decide +kernel
theorem dX7_begin_18 : decode kX7_begin.2.1 18 = .ok (.putfield 18, 3) := by decide +kernel
theorem dX7_begin_21 : decode kX7_begin.2.1 21 = .ok (.aload_n 0, 1) := by decide +kernel
theorem dX7_begin_22 : decode kX7_begin.2.1 22 = .ok (.iconst 0, 1) := by decide +kernel
theorem dX7_begin_23 : decode kX7_begin.2.1 23 = .ok (.putfield 25, 3) := by decide +kernel
theorem dX7_begin_26 : decode kX7_begin.2.1 26 = .ok (.aload_n 0, 1) := by decide +kernel
theorem dX7_begin_27 : decode kX7_begin.2.1 27 = .ok (.iload_n 1, 1) := by decide +kernel
theorem dX7_begin_28 : decode kX7_begin.2.1 28 = .ok (.putfield 22, 3) := by decide +kernel
theorem dX7_begin_31 : decode kX7_begin.2.1 31 = .ok (.return_, 1) := by decide +kernel
theorem dX7_copyFrom_0 : decode kX7_copyFrom.2.1 0 = .ok (.iconst 0, 1) := by decide +kernel
theorem dX7_copyFrom_1 : decode kX7_copyFrom.2.1 1 = .ok (.istore_n 2, 1) := by decide +kernel
theorem dX7_copyFrom_2 : decode kX7_copyFrom.2.1 2 = .ok (.iload_n 2, 1) := by decide +kernel
theorem dX7_copyFrom_3 : decode kX7_copyFrom.2.1 3 = .ok (.iconst 4, 1) := by decide +kernel
theorem dX7_copyFrom_4 : decode kX7_copyFrom.2.1 4 = .ok (.if_icmp .ge 33, 3) := by decide +kernel
theorem dX7_copyFrom_7 : decode kX7_copyFrom.2.1 7 = .ok (.aload_n 0, 1) := by decide +kernel
theorem dX7_copyFrom_8 : decode kX7_copyFrom.2.1 8 = .ok (.getfield 9, 3) := by decide +kernel
theorem dX7_copyFrom_11 : decode kX7_copyFrom.2.1 11 = .ok (.iload_n 2, 1) := by decide +kernel
theorem dX7_copyFrom_12 : decode kX7_copyFrom.2.1 12 = .ok (.aload_n 1, 1) := by decide +kernel
theorem dX7_copyFrom_13 : decode kX7_copyFrom.2.1 13 = .ok (.getfield 9, 3) := by decide +kernel
theorem dX7_copyFrom_16 : decode kX7_copyFrom.2.1 16 = .ok (.iload_n 2, 1) := by decide +kernel
theorem dX7_copyFrom_17 : decode kX7_copyFrom.2.1 17 = .ok (.iaload, 1) := by decide +kernel
theorem dX7_copyFrom_18 : decode kX7_copyFrom.2.1 18 = .ok (.iastore, 1) := by decide +kernel
theorem dX7_copyFrom_19 : decode kX7_copyFrom.2.1 19 = .ok (.aload_n 0, 1) := by decide +kernel
theorem dX7_copyFrom_20 : decode kX7_copyFrom.2.1 20 = .ok (.getfield 15, 3) := by decide +kernel
theorem dX7_copyFrom_23 : decode kX7_copyFrom.2.1 23 = .ok (.iload_n 2, 1) := by decide +kernel
theorem dX7_copyFrom_24 : decode kX7_copyFrom.2.1 24 = .ok (.aload_n 1, 1) := by decide +kernel
theorem dX7_copyFrom_25 : decode kX7_copyFrom.2.1 25 = .ok (.getfield 15, 3) := by decide +kernel
theorem dX7_copyFrom_28 : decode kX7_copyFrom.2.1 28 = .ok (.iload_n 2, 1) := by decide +kernel
theorem dX7_copyFrom_29 : decode kX7_copyFrom.2.1 29 = .ok (.iaload, 1) := by decide +kernel
theorem dX7_copyFrom_30 : decode kX7_copyFrom.2.1 30 = .ok (.iastore, 1) := by decide +kernel
theorem dX7_copyFrom_31 : decode kX7_copyFrom.2.1 31 = .ok (.iinc 2 1, 3) := by decide +kernel
theorem dX7_copyFrom_34 : decode kX7_copyFrom.2.1 34 = .ok (.goto (-32), 3) := by decide +kernel
theorem dX7_copyFrom_37 : decode kX7_copyFrom.2.1 37 = .ok (.aload_n 0, 1) := by decide +kernel
theorem dX7_copyFrom_38 : decode kX7_copyFrom.2.1 38 = .ok (.aload_n 1, 1) := by decide +kernel
theorem dX7_copyFrom_39 : decode kX7_copyFrom.2.1 39 = .ok (.getfield 18, 3) := by decide +kernel
theorem dX7_copyFrom_42 : decode kX7_copyFrom.2.1 42 = .ok (.putfield 18, 3) := by decide +kernel
theorem dX7_copyFrom_45 : decode kX7_copyFrom.2.1 45 = .ok (.aload_n 0, 1) := by decide +kernel
theorem dX7_copyFrom_46 : decode kX7_copyFrom.2.1 46 = .ok (.aload_n 1, 1) := by decide +kernel
theorem dX7_copyFrom_47 : decode kX7_copyFrom.2.1 47 = .ok (.getfield 22, 3) := by decide +kernel
theorem dX7_copyFrom_50 : decode kX7_copyFrom.2.1 50 = .ok (.putfield 22, 3) := by decide +kernel
theorem dX7_copyFrom_53 : decode kX7_copyFrom.2.1 53 = .ok (.aload_n 0, 1) := by decide +kernel
theorem dX7_copyFrom_54 : decode kX7_copyFrom.2.1 54 = .ok (.aload_n 1, 1) := by decide +kernel
theorem dX7_copyFrom_55 : decode kX7_copyFrom.2.1 55 = .ok (.getfield 25, 3) := by decide +kernel
theorem dX7_copyFrom_58 : decode kX7_copyFrom.2.1 58 = .ok (.putfield 25, 3) := by decide +kernel
theorem dX7_copyFrom_61 : decode kX7_copyFrom.2.1 61 = .ok (.return_, 1) := by decide +kernel
theorem dX7_pointsOf_0 : decode kX7_pointsOf.2.1 0 = .ok (.iload_n 1, 1) := by decide +kernel
theorem dX7_pointsOf_1 : decode kX7_pointsOf.2.1 1 = .ok (.ifCond .lt 21, 3) := by decide +kernel
theorem dX7_pointsOf_4 : decode kX7_pointsOf.2.1 4 = .ok (.iload_n 1, 1) := by decide +kernel
theorem dX7_pointsOf_5 : decode kX7_pointsOf.2.1 5 = .ok (.aload_n 0, 1) := by decide +kernel
theorem dX7_pointsOf_6 : decode kX7_pointsOf.2.1 6 = .ok (.getfield 9, 3) := by decide +kernel
theorem dX7_pointsOf_9 : decode kX7_pointsOf.2.1 9 = .ok (.arraylength, 1) := by decide +kernel
theorem dX7_pointsOf_10 : decode kX7_pointsOf.2.1 10 = .ok (.if_icmp .ge 12, 3) := by decide +kernel
theorem dX7_pointsOf_13 : decode kX7_pointsOf.2.1 13 = .ok (.aload_n 0, 1) := by decide +kernel
theorem dX7_pointsOf_14 : decode kX7_pointsOf.2.1 14 = .ok (.getfield 9, 3) := by decide +kernel
theorem dX7_pointsOf_17 : decode kX7_pointsOf.2.1 17 = .ok (.iload_n 1, 1) := by decide +kernel
theorem dX7_pointsOf_18 : decode kX7_pointsOf.2.1 18 = .ok (.iaload, 1) := by decide +kernel
theorem dX7_pointsOf_19 : decode kX7_pointsOf.2.1 19 = .ok (.goto 4, 3) := by decide +kernel
theorem dX7_pointsOf_22 : decode kX7_pointsOf.2.1 22 = .ok (.iconst 0, 1) := by decide +kernel
theorem dX7_pointsOf_23 : decode kX7_pointsOf.2.1 23 = .ok (.ireturn, 1) := by decide +kernel
theorem dX7_ageOf_0 : decode kX7_ageOf.2.1 0 = .ok (.iload_n 1, 1) := by decide +kernel
theorem dX7_ageOf_1 : decode kX7_ageOf.2.1 1 = .ok (.ifCond .lt 21, 3) := by decide +kernel
theorem dX7_ageOf_4 : decode kX7_ageOf.2.1 4 = .ok (.iload_n 1, 1) := by decide +kernel
theorem dX7_ageOf_5 : decode kX7_ageOf.2.1 5 = .ok (.aload_n 0, 1) := by decide +kernel
theorem dX7_ageOf_6 : decode kX7_ageOf.2.1 6 = .ok (.getfield 15, 3) := by decide +kernel
theorem dX7_ageOf_9 : decode kX7_ageOf.2.1 9 = .ok (.arraylength, 1) := by decide +kernel
theorem dX7_ageOf_10 : decode kX7_ageOf.2.1 10 = .ok (.if_icmp .ge 12, 3) := by decide +kernel
theorem dX7_ageOf_13 : decode kX7_ageOf.2.1 13 = .ok (.aload_n 0, 1) := by decide +kernel
theorem dX7_ageOf_14 : decode kX7_ageOf.2.1 14 = .ok (.getfield 15, 3) := by decide +kernel
theorem dX7_ageOf_17 : decode kX7_ageOf.2.1 17 = .ok (.iload_n 1, 1) := by decide +kernel
theorem dX7_ageOf_18 : decode kX7_ageOf.2.1 18 = .ok (.iaload, 1) := by decide +kernel
theorem dX7_ageOf_19 : decode kX7_ageOf.2.1 19 = .ok (.goto 4, 3) := by decide +kernel
theorem dX7_ageOf_22 : decode kX7_ageOf.2.1 22 = .ok (.iconst 0, 1) := by decide +kernel
theorem dX7_ageOf_23 : decode kX7_ageOf.2.1 23 = .ok (.ireturn, 1) := by decide +kernel
theorem dX7_addShot_0 : decode kX7_addShot.2.1 0 = .ok (.iload_n 1, 1) := by decide +kernel
theorem dX7_addShot_1 : decode kX7_addShot.2.1 1 = .ok (.ifCond .lt 50, 3) := by decide +kernel
theorem dX7_addShot_4 : decode kX7_addShot.2.1 4 = .ok (.iload_n 1, 1) := by decide +kernel
theorem dX7_addShot_5 : decode kX7_addShot.2.1 5 = .ok (.aload_n 0, 1) := by decide +kernel
theorem dX7_addShot_6 : decode kX7_addShot.2.1 6 = .ok (.getfield 9, 3) := by decide +kernel
theorem dX7_addShot_9 : decode kX7_addShot.2.1 9 = .ok (.arraylength, 1) := by decide +kernel
theorem dX7_addShot_10 : decode kX7_addShot.2.1 10 = .ok (.if_icmp .ge 41, 3) := by decide +kernel
theorem dX7_addShot_13 : decode kX7_addShot.2.1 13 = .ok (.iload_n 1, 1) := by decide +kernel
theorem dX7_addShot_14 : decode kX7_addShot.2.1 14 = .ok (.aload_n 0, 1) := by decide +kernel
theorem dX7_addShot_15 : decode kX7_addShot.2.1 15 = .ok (.getfield 15, 3) := by decide +kernel
theorem dX7_addShot_18 : decode kX7_addShot.2.1 18 = .ok (.arraylength, 1) := by decide +kernel
theorem dX7_addShot_19 : decode kX7_addShot.2.1 19 = .ok (.if_icmp .ge 32, 3) := by decide +kernel
theorem dX7_addShot_22 : decode kX7_addShot.2.1 22 = .ok (.aload_n 0, 1) := by decide +kernel
theorem dX7_addShot_23 : decode kX7_addShot.2.1 23 = .ok (.getfield 9, 3) := by decide +kernel
theorem dX7_addShot_26 : decode kX7_addShot.2.1 26 = .ok (.iload_n 1, 1) := by decide +kernel
theorem dX7_addShot_27 : decode kX7_addShot.2.1 27 = .ok (.dup2, 1) := by decide +kernel
theorem dX7_addShot_28 : decode kX7_addShot.2.1 28 = .ok (.iaload, 1) := by decide +kernel
theorem dX7_addShot_29 : decode kX7_addShot.2.1 29 = .ok (.iload_n 2, 1) := by decide +kernel
theorem dX7_addShot_30 : decode kX7_addShot.2.1 30 = .ok (.iadd, 1) := by decide +kernel
theorem dX7_addShot_31 : decode kX7_addShot.2.1 31 = .ok (.iastore, 1) := by decide +kernel
theorem dX7_addShot_32 : decode kX7_addShot.2.1 32 = .ok (.aload_n 0, 1) := by decide +kernel
theorem dX7_addShot_33 : decode kX7_addShot.2.1 33 = .ok (.getfield 15, 3) := by decide +kernel
theorem dX7_addShot_36 : decode kX7_addShot.2.1 36 = .ok (.iload_n 1, 1) := by decide +kernel
theorem dX7_addShot_37 : decode kX7_addShot.2.1 37 = .ok (.bipush 9, 2) := by decide +kernel
theorem dX7_addShot_39 : decode kX7_addShot.2.1 39 = .ok (.aload_n 0, 1) := by decide +kernel
theorem dX7_addShot_40 : decode kX7_addShot.2.1 40 = .ok (.getfield 15, 3) := by decide +kernel
theorem dX7_addShot_43 : decode kX7_addShot.2.1 43 = .ok (.iload_n 1, 1) := by decide +kernel
theorem dX7_addShot_44 : decode kX7_addShot.2.1 44 = .ok (.iaload, 1) := by decide +kernel
theorem dX7_addShot_45 : decode kX7_addShot.2.1 45 = .ok (.iconst 1, 1) := by decide +kernel
theorem dX7_addShot_46 : decode kX7_addShot.2.1 46 = .ok (.iadd, 1) := by decide +kernel
theorem dX7_addShot_47 : decode kX7_addShot.2.1 47 = .ok (.invokestatic 34, 3) := by decide +kernel
theorem dX7_addShot_50 : decode kX7_addShot.2.1 50 = .ok (.iastore, 1) := by decide +kernel
theorem dX7_addShot_51 : decode kX7_addShot.2.1 51 = .ok (.return_, 1) := by decide +kernel
theorem dX8_init_0 : decode kX8_init.2.1 0 = .ok (.aload_n 0, 1) := by decide +kernel
theorem dX8_init_1 : decode kX8_init.2.1 1 = .ok (.invokespecial 3, 3) := by decide +kernel
theorem dX8_init_4 : decode kX8_init.2.1 4 = .ok (.aload_n 0, 1) := by decide +kernel
theorem dX8_init_5 : decode kX8_init.2.1 5 = .ok (.sipush 210, 3) := by decide +kernel
theorem dX8_init_8 : decode kX8_init.2.1 8 = .ok (.newarray .int, 2) := by decide +kernel
theorem dX8_init_10 : decode kX8_init.2.1 10 = .ok (.putfield 9, 3) := by decide +kernel
theorem dX8_init_13 : decode kX8_init.2.1 13 = .ok (.aload_n 0, 1) := by decide +kernel
theorem dX8_init_14 : decode kX8_init.2.1 14 = .ok (.bipush 21, 2) := by decide +kernel
theorem dX8_init_16 : decode kX8_init.2.1 16 = .ok (.newarray .int, 2) := by decide +kernel
theorem dX8_init_18 : decode kX8_init.2.1 18 = .ok (.putfield 15, 3) := by decide +kernel
theorem dX8_init_21 : decode kX8_init.2.1 21 = .ok (.aload_n 0, 1) := by decide +kernel
theorem dX8_init_22 : decode kX8_init.2.1 22 = .ok (.bipush 21, 2) := by decide +kernel
theorem dX8_init_24 : decode kX8_init.2.1 24 = .ok (.newarray .int, 2) := by decide +kernel
theorem dX8_init_26 : decode kX8_init.2.1 26 = .ok (.putfield 18, 3) := by decide +kernel
theorem dX8_init_29 : decode kX8_init.2.1 29 = .ok (.return_, 1) := by decide +kernel
theorem dX8_fill_0 : decode kX8_fill.2.1 0 = .ok (.aload_n 0, 1) := by decide +kernel
theorem dX8_fill_1 : decode kX8_fill.2.1 1 = .ok (.getfield 15, 3) := by decide +kernel
theorem dX8_fill_4 : decode kX8_fill.2.1 4 = .ok (.iconst 0, 1) := by decide +kernel
theorem dX8_fill_5 : decode kX8_fill.2.1 5 = .ok (.invokestatic 21, 3) := by decide +kernel
theorem dX8_fill_8 : decode kX8_fill.2.1 8 = .ok (.aload_n 0, 1) := by decide +kernel
theorem dX8_fill_9 : decode kX8_fill.2.1 9 = .ok (.getfield 18, 3) := by decide +kernel
theorem dX8_fill_12 : decode kX8_fill.2.1 12 = .ok (.iconst 0, 1) := by decide +kernel
theorem dX8_fill_13 : decode kX8_fill.2.1 13 = .ok (.invokestatic 21, 3) := by decide +kernel
theorem dX8_fill_16 : decode kX8_fill.2.1 16 = .ok (.aload_n 2, 1) := by decide +kernel
theorem dX8_fill_17 : decode kX8_fill.2.1 17 = .ok (.getfield 27, 3) := by decide +kernel
theorem dX8_fill_20 : decode kX8_fill.2.1 20 = .ok (.ifnull 17, 3) := by decide +kernel
theorem dX8_fill_23 : decode kX8_fill.2.1 23 = .ok (.aload_n 2, 1) := by decide +kernel
theorem dX8_fill_24 : decode kX8_fill.2.1 24 = .ok (.getfield 27, 3) := by decide +kernel
theorem dX8_fill_27 : decode kX8_fill.2.1 27 = .ok (.getfield 33, 3) := by decide +kernel
theorem dX8_fill_30 : decode kX8_fill.2.1 30 = .ok (.ifCond .eq 7, 3) := by decide +kernel
theorem dX8_fill_33 : decode kX8_fill.2.1 33 = .ok (.iconst 1, 1) := by decide +kernel
theorem dX8_fill_34 : decode kX8_fill.2.1 34 = .ok (.goto 4, 3) := by decide +kernel
theorem dX8_fill_37 : decode kX8_fill.2.1 37 = .ok (.iconst 0, 1) := by decide +kernel
theorem dX8_fill_38 : decode kX8_fill.2.1 38 = .ok (.istore 6, 2) := by decide +kernel
theorem dX8_fill_40 : decode kX8_fill.2.1 40 = .ok (.iconst 0, 1) := by decide +kernel
theorem dX8_fill_41 : decode kX8_fill.2.1 41 = .ok (.istore 7, 2) := by decide +kernel
theorem dX8_fill_43 : decode kX8_fill.2.1 43 = .ok (.iload 7, 2) := by decide +kernel
theorem dX8_fill_45 : decode kX8_fill.2.1 45 = .ok (.bipush 10, 2) := by decide +kernel
theorem dX8_fill_47 : decode kX8_fill.2.1 47 = .ok (.if_icmp .ge 130, 3) := by decide +kernel
theorem dX8_fill_50 : decode kX8_fill.2.1 50 = .ok (.aload_n 1, 1) := by decide +kernel
theorem dX8_fill_51 : decode kX8_fill.2.1 51 = .ok (.aload_n 2, 1) := by decide +kernel
theorem dX8_fill_52 : decode kX8_fill.2.1 52 = .ok (.iload_n 3, 1) := by decide +kernel
theorem dX8_fill_53 : decode kX8_fill.2.1 53 = .ok (.iload 4, 2) := by decide +kernel
theorem dX8_fill_55 : decode kX8_fill.2.1 55 = .ok (.iload 5, 2) := by decide +kernel
theorem dX8_fill_57 : decode kX8_fill.2.1 57 = .ok (.iconst 0, 1) := by decide +kernel
theorem dX8_fill_58 : decode kX8_fill.2.1 58 = .ok (.iload 7, 2) := by decide +kernel
theorem dX8_fill_60 : decode kX8_fill.2.1 60 = .ok (.invokevirtual 39, 3) := by decide +kernel
theorem dX8_fill_63 : decode kX8_fill.2.1 63 = .ok (.istore 8, 2) := by decide +kernel
theorem dX8_fill_65 : decode kX8_fill.2.1 65 = .ok (.iconst 0, 1) := by decide +kernel
theorem dX8_fill_66 : decode kX8_fill.2.1 66 = .ok (.istore 9, 2) := by decide +kernel
theorem dX8_fill_68 : decode kX8_fill.2.1 68 = .ok (.iload 9, 2) := by decide +kernel
theorem dX8_fill_70 : decode kX8_fill.2.1 70 = .ok (.bipush 21, 2) := by decide +kernel
theorem dX8_fill_72 : decode kX8_fill.2.1 72 = .ok (.if_icmp .ge 99, 3) := by decide +kernel
theorem dX8_fill_75 : decode kX8_fill.2.1 75 = .ok (.iload 6, 2) := by decide +kernel
theorem dX8_fill_77 : decode kX8_fill.2.1 77 = .ok (.ifCond .eq 24, 3) := by decide +kernel
theorem dX8_fill_80 : decode kX8_fill.2.1 80 = .ok (.iload 9, 2) := by decide +kernel
theorem dX8_fill_82 : decode kX8_fill.2.1 82 = .ok (.ifCond .le 19, 3) := by decide +kernel
theorem dX8_fill_85 : decode kX8_fill.2.1 85 = .ok (.aload_n 1, 1) := by decide +kernel
theorem dX8_fill_86 : decode kX8_fill.2.1 86 = .ok (.aload_n 2, 1) := by decide +kernel
theorem dX8_fill_87 : decode kX8_fill.2.1 87 = .ok (.iload_n 3, 1) := by decide +kernel
theorem dX8_fill_88 : decode kX8_fill.2.1 88 = .ok (.iload 4, 2) := by decide +kernel
theorem dX8_fill_90 : decode kX8_fill.2.1 90 = .ok (.iload 5, 2) := by decide +kernel
theorem dX8_fill_92 : decode kX8_fill.2.1 92 = .ok (.iload 9, 2) := by decide +kernel
theorem dX8_fill_94 : decode kX8_fill.2.1 94 = .ok (.iload 7, 2) := by decide +kernel
theorem dX8_fill_96 : decode kX8_fill.2.1 96 = .ok (.invokevirtual 39, 3) := by decide +kernel
theorem dX8_fill_99 : decode kX8_fill.2.1 99 = .ok (.istore 8, 2) := by decide +kernel
theorem dX8_fill_101 : decode kX8_fill.2.1 101 = .ok (.iload 9, 2) := by decide +kernel
theorem dX8_fill_103 : decode kX8_fill.2.1 103 = .ok (.iload 8, 2) := by decide +kernel
theorem dX8_fill_105 : decode kX8_fill.2.1 105 = .ok (.invokestatic 45, 3) := by decide +kernel
theorem dX8_fill_108 : decode kX8_fill.2.1 108 = .ok (.istore 10, 2) := by decide +kernel
theorem dX8_fill_110 : decode kX8_fill.2.1 110 = .ok (.aload_n 0, 1) := by decide +kernel
theorem dX8_fill_111 : decode kX8_fill.2.1 111 = .ok (.getfield 9, 3) := by decide +kernel
theorem dX8_fill_114 : decode kX8_fill.2.1 114 = .ok (.iload 9, 2) := by decide +kernel
theorem dX8_fill_116 : decode kX8_fill.2.1 116 = .ok (.bipush 10, 2) := by decide +kernel
theorem dX8_fill_118 : decode kX8_fill.2.1 118 = .ok (.imul, 1) := by decide +kernel
theorem dX8_fill_119 : decode kX8_fill.2.1 119 = .ok (.iload 7, 2) := by decide +kernel
theorem dX8_fill_121 : decode kX8_fill.2.1 121 = .ok (.iadd, 1) := by decide +kernel
theorem dX8_fill_122 : decode kX8_fill.2.1 122 = .ok (.iload 10, 2) := by decide +kernel
theorem dX8_fill_124 : decode kX8_fill.2.1 124 = .ok (.iastore, 1) := by decide +kernel
theorem dX8_fill_125 : decode kX8_fill.2.1 125 = .ok (.aload_n 2, 1) := by decide +kernel
theorem dX8_fill_126 : decode kX8_fill.2.1 126 = .ok (.iload 10, 2) := by decide +kernel
theorem dX8_fill_128 : decode kX8_fill.2.1 128 = .ok (.invokevirtual 49, 3) := by decide +kernel
theorem dX8_fill_131 : decode kX8_fill.2.1 131 = .ok (.ifCond .ne 17, 3) := by decide +kernel
theorem dX8_fill_134 : decode kX8_fill.2.1 134 = .ok (.aload_n 0, 1) := by decide +kernel
theorem dX8_fill_135 : decode kX8_fill.2.1 135 = .ok (.getfield 15, 3) := by decide +kernel
theorem dX8_fill_138 : decode kX8_fill.2.1 138 = .ok (.iload 9, 2) := by decide +kernel
theorem dX8_fill_140 : decode kX8_fill.2.1 140 = .ok (.dup2, 1) := by decide +kernel
theorem dX8_fill_141 : decode kX8_fill.2.1 141 = .ok (.iaload, 1) := by decide +kernel
theorem dX8_fill_142 : decode kX8_fill.2.1 142 = .ok (.iconst 1, 1) := by decide +kernel
theorem dX8_fill_143 : decode kX8_fill.2.1 143 = .ok (.iadd, 1) := by decide +kernel
theorem dX8_fill_144 : decode kX8_fill.2.1 144 = .ok (.iastore, 1) := by decide +kernel
theorem dX8_fill_145 : decode kX8_fill.2.1 145 = .ok (.goto 20, 3) := by decide +kernel
theorem dX8_fill_148 : decode kX8_fill.2.1 148 = .ok (.aload_n 0, 1) := by decide +kernel
theorem dX8_fill_149 : decode kX8_fill.2.1 149 = .ok (.getfield 18, 3) := by decide +kernel
theorem dX8_fill_152 : decode kX8_fill.2.1 152 = .ok (.iload 9, 2) := by decide +kernel
theorem dX8_fill_154 : decode kX8_fill.2.1 154 = .ok (.dup2, 1) := by decide +kernel
theorem dX8_fill_155 : decode kX8_fill.2.1 155 = .ok (.iaload, 1) := by decide +kernel
theorem dX8_fill_156 : decode kX8_fill.2.1 156 = .ok (.aload_n 2, 1) := by decide +kernel
theorem dX8_fill_157 : decode kX8_fill.2.1 157 = .ok (.iload 10, 2) := by decide +kernel
theorem dX8_fill_159 : decode kX8_fill.2.1 159 = .ok (.iconst 0, 1) := by decide +kernel
theorem dX8_fill_160 : decode kX8_fill.2.1 160 = .ok (.invokevirtual 53, 3) := by decide +kernel
theorem dX8_fill_163 : decode kX8_fill.2.1 163 = .ok (.iadd, 1) := by decide +kernel
theorem dX8_fill_164 : decode kX8_fill.2.1 164 = .ok (.iastore, 1) := by decide +kernel
theorem dX8_fill_165 : decode kX8_fill.2.1 165 = .ok (.iinc 9 1, 3) := by decide +kernel
theorem dX8_fill_168 : decode kX8_fill.2.1 168 = .ok (.goto (-100), 3) := by decide +kernel
theorem dX8_fill_171 : decode kX8_fill.2.1 171 = .ok (.iinc 7 1, 3) := by decide +kernel
theorem dX8_fill_174 : decode kX8_fill.2.1 174 = .ok (.goto (-131), 3) := by decide +kernel
theorem dX8_fill_177 : decode kX8_fill.2.1 177 = .ok (.return_, 1) := by decide +kernel
theorem dX8_landingAt_0 : decode kX8_landingAt.2.1 0 = .ok (.iload_n 1, 1) := by decide +kernel
theorem dX8_landingAt_1 : decode kX8_landingAt.2.1 1 = .ok (.i2l, 1) := by decide +kernel
theorem dX8_landingAt_2 : decode kX8_landingAt.2.1 2 = .ok (.invokestatic 57, 3) := by decide +kernel
theorem dX8_landingAt_5 : decode kX8_landingAt.2.1 5 = .ok (.ifCond .eq 25, 3) := by decide +kernel
theorem dX8_landingAt_8 : decode kX8_landingAt.2.1 8 = .ok (.iload_n 2, 1) := by decide +kernel
theorem dX8_landingAt_9 : decode kX8_landingAt.2.1 9 = .ok (.i2l, 1) := by decide +kernel
theorem dX8_landingAt_10 : decode kX8_landingAt.2.1 10 = .ok (.invokestatic 61, 3) := by decide +kernel
theorem dX8_landingAt_13 : decode kX8_landingAt.2.1 13 = .ok (.ifCond .eq 17, 3) := by decide +kernel
theorem dX8_landingAt_16 : decode kX8_landingAt.2.1 16 = .ok (.aload_n 0, 1) := by decide +kernel
theorem dX8_landingAt_17 : decode kX8_landingAt.2.1 17 = .ok (.getfield 9, 3) := by decide +kernel
theorem dX8_landingAt_20 : decode kX8_landingAt.2.1 20 = .ok (.iload_n 1, 1) := by decide +kernel
theorem dX8_landingAt_21 : decode kX8_landingAt.2.1 21 = .ok (.bipush 10, 2) := by decide +kernel
theorem dX8_landingAt_23 : decode kX8_landingAt.2.1 23 = .ok (.imul, 1) := by decide +kernel
theorem dX8_landingAt_24 : decode kX8_landingAt.2.1 24 = .ok (.iload_n 2, 1) := by decide +kernel
theorem dX8_landingAt_25 : decode kX8_landingAt.2.1 25 = .ok (.iadd, 1) := by decide +kernel
theorem dX8_landingAt_26 : decode kX8_landingAt.2.1 26 = .ok (.iaload, 1) := by decide +kernel
theorem dX8_landingAt_27 : decode kX8_landingAt.2.1 27 = .ok (.goto 4, 3) := by decide +kernel
theorem dX8_landingAt_30 : decode kX8_landingAt.2.1 30 = .ok (.iconst 0, 1) := by decide +kernel
theorem dX8_landingAt_31 : decode kX8_landingAt.2.1 31 = .ok (.ireturn, 1) := by decide +kernel
theorem dX8_touchCount_0 : decode kX8_touchCount.2.1 0 = .ok (.iload_n 1, 1) := by decide +kernel
theorem dX8_touchCount_1 : decode kX8_touchCount.2.1 1 = .ok (.i2l, 1) := by decide +kernel
theorem dX8_touchCount_2 : decode kX8_touchCount.2.1 2 = .ok (.invokestatic 57, 3) := by decide +kernel
theorem dX8_touchCount_5 : decode kX8_touchCount.2.1 5 = .ok (.ifCond .eq 12, 3) := by decide +kernel
theorem dX8_touchCount_8 : decode kX8_touchCount.2.1 8 = .ok (.aload_n 0, 1) := by decide +kernel
theorem dX8_touchCount_9 : decode kX8_touchCount.2.1 9 = .ok (.getfield 15, 3) := by decide +kernel
theorem dX8_touchCount_12 : decode kX8_touchCount.2.1 12 = .ok (.iload_n 1, 1) := by decide +kernel
theorem dX8_touchCount_13 : decode kX8_touchCount.2.1 13 = .ok (.iaload, 1) := by decide +kernel
theorem dX8_touchCount_14 : decode kX8_touchCount.2.1 14 = .ok (.goto 4, 3) := by decide +kernel
theorem dX8_touchCount_17 : decode kX8_touchCount.2.1 17 = .ok (.iconst 0, 1) := by decide +kernel
theorem dX8_touchCount_18 : decode kX8_touchCount.2.1 18 = .ok (.ireturn, 1) := by decide +kernel
theorem dX8_sum_0 : decode kX8_sum.2.1 0 = .ok (.iload_n 1, 1) := by decide +kernel
theorem dX8_sum_1 : decode kX8_sum.2.1 1 = .ok (.i2l, 1) := by decide +kernel
theorem dX8_sum_2 : decode kX8_sum.2.1 2 = .ok (.invokestatic 57, 3) := by decide +kernel
theorem dX8_sum_5 : decode kX8_sum.2.1 5 = .ok (.ifCond .eq 21, 3) := by decide +kernel
theorem dX8_sum_8 : decode kX8_sum.2.1 8 = .ok (.aload_n 0, 1) := by decide +kernel
theorem dX8_sum_9 : decode kX8_sum.2.1 9 = .ok (.getfield 18, 3) := by decide +kernel
theorem dX8_sum_12 : decode kX8_sum.2.1 12 = .ok (.iload_n 1, 1) := by decide +kernel
theorem dX8_sum_13 : decode kX8_sum.2.1 13 = .ok (.iaload, 1) := by decide +kernel
theorem dX8_sum_14 : decode kX8_sum.2.1 14 = .ok (.iload_n 2, 1) := by decide +kernel
theorem dX8_sum_15 : decode kX8_sum.2.1 15 = .ok (.aload_n 0, 1) := by decide +kernel
theorem dX8_sum_16 : decode kX8_sum.2.1 16 = .ok (.getfield 15, 3) := by decide +kernel
theorem dX8_sum_19 : decode kX8_sum.2.1 19 = .ok (.iload_n 1, 1) := by decide +kernel
theorem dX8_sum_20 : decode kX8_sum.2.1 20 = .ok (.iaload, 1) := by decide +kernel
theorem dX8_sum_21 : decode kX8_sum.2.1 21 = .ok (.imul, 1) := by decide +kernel
theorem dX8_sum_22 : decode kX8_sum.2.1 22 = .ok (.isub, 1) := by decide +kernel
theorem dX8_sum_23 : decode kX8_sum.2.1 23 = .ok (.goto 4, 3) := by decide +kernel
theorem dX8_sum_26 : decode kX8_sum.2.1 26 = .ok (.iconst 0, 1) := by decide +kernel
theorem dX8_sum_27 : decode kX8_sum.2.1 27 = .ok (.ireturn, 1) := by decide +kernel
theorem dX8_lesser_0 : decode kX8_lesser.2.1 0 = .ok (.aload_n 0, 1) := by decide +kernel
theorem dX8_lesser_1 : decode kX8_lesser.2.1 1 = .ok (.iload_n 1, 1) := by decide +kernel
theorem dX8_lesser_2 : decode kX8_lesser.2.1 2 = .ok (.iload_n 2, 1) := by decide +kernel
theorem dX8_lesser_3 : decode kX8_lesser.2.1 3 = .ok (.invokevirtual 64, 3) := by decide +kernel
theorem dX8_lesser_6 : decode kX8_lesser.2.1 6 = .ok (.aload_n 0, 1) := by decide +kernel
theorem dX8_lesser_7 : decode kX8_lesser.2.1 7 = .ok (.iload_n 1, 1) := by decide +kernel
theorem dX8_lesser_8 : decode kX8_lesser.2.1 8 = .ok (.iconst 0, 1) := by decide +kernel
theorem dX8_lesser_9 : decode kX8_lesser.2.1 9 = .ok (.invokevirtual 64, 3) := by decide +kernel
theorem dX8_lesser_12 : decode kX8_lesser.2.1 12 = .ok (.invokestatic 67, 3) := by decide +kernel
theorem dX8_lesser_15 : decode kX8_lesser.2.1 15 = .ok (.ireturn, 1) := by decide +kernel
theorem dX8_best_0 : decode kX8_best.2.1 0 = .ok (.iconst 0, 1) := by decide +kernel
theorem dX8_best_1 : decode kX8_best.2.1 1 = .ok (.istore_n 2, 1) := by decide +kernel
theorem dX8_best_2 : decode kX8_best.2.1 2 = .ok (.aload_n 0, 1) := by decide +kernel
theorem dX8_best_3 : decode kX8_best.2.1 3 = .ok (.iconst 0, 1) := by decide +kernel
theorem dX8_best_4 : decode kX8_best.2.1 4 = .ok (.iload_n 1, 1) := by decide +kernel
theorem dX8_best_5 : decode kX8_best.2.1 5 = .ok (.invokevirtual 64, 3) := by decide +kernel
theorem dX8_best_8 : decode kX8_best.2.1 8 = .ok (.istore_n 3, 1) := by decide +kernel
theorem dX8_best_9 : decode kX8_best.2.1 9 = .ok (.iconst 1, 1) := by decide +kernel
theorem dX8_best_10 : decode kX8_best.2.1 10 = .ok (.istore 4, 2) := by decide +kernel
theorem dX8_best_12 : decode kX8_best.2.1 12 = .ok (.iload 4, 2) := by decide +kernel
theorem dX8_best_14 : decode kX8_best.2.1 14 = .ok (.bipush 21, 2) := by decide +kernel
theorem dX8_best_16 : decode kX8_best.2.1 16 = .ok (.if_icmp .ge 30, 3) := by decide +kernel
theorem dX8_best_19 : decode kX8_best.2.1 19 = .ok (.aload_n 0, 1) := by decide +kernel
theorem dX8_best_20 : decode kX8_best.2.1 20 = .ok (.iload 4, 2) := by decide +kernel
theorem dX8_best_22 : decode kX8_best.2.1 22 = .ok (.iload_n 1, 1) := by decide +kernel
theorem dX8_best_23 : decode kX8_best.2.1 23 = .ok (.invokevirtual 64, 3) := by decide +kernel
theorem dX8_best_26 : decode kX8_best.2.1 26 = .ok (.istore 5, 2) := by decide +kernel
theorem dX8_best_28 : decode kX8_best.2.1 28 = .ok (.iload 5, 2) := by decide +kernel
theorem dX8_best_30 : decode kX8_best.2.1 30 = .ok (.iload_n 3, 1) := by decide +kernel
theorem dX8_best_31 : decode kX8_best.2.1 31 = .ok (.if_icmp .le 9, 3) := by decide +kernel
theorem dX8_best_34 : decode kX8_best.2.1 34 = .ok (.iload 4, 2) := by decide +kernel
theorem dX8_best_36 : decode kX8_best.2.1 36 = .ok (.istore_n 2, 1) := by decide +kernel
theorem dX8_best_37 : decode kX8_best.2.1 37 = .ok (.iload 5, 2) := by decide +kernel
theorem dX8_best_39 : decode kX8_best.2.1 39 = .ok (.istore_n 3, 1) := by decide +kernel
theorem dX8_best_40 : decode kX8_best.2.1 40 = .ok (.iinc 4 1, 3) := by decide +kernel
theorem dX8_best_43 : decode kX8_best.2.1 43 = .ok (.goto (-31), 3) := by decide +kernel
theorem dX8_best_46 : decode kX8_best.2.1 46 = .ok (.iload_n 2, 1) := by decide +kernel
theorem dX8_best_47 : decode kX8_best.2.1 47 = .ok (.ireturn, 1) := by decide +kernel
theorem dX8_reached_0 : decode kX8_reached.2.1 0 = .ok (.iconst 0, 1) := by decide +kernel
theorem dX8_reached_1 : decode kX8_reached.2.1 1 = .ok (.istore_n 2, 1) := by decide +kernel
theorem dX8_reached_2 : decode kX8_reached.2.1 2 = .ok (.iconst 0, 1) := by decide +kernel
theorem dX8_reached_3 : decode kX8_reached.2.1 3 = .ok (.istore_n 3, 1) := by decide +kernel
theorem dX8_reached_4 : decode kX8_reached.2.1 4 = .ok (.iload_n 3, 1) := by decide +kernel
theorem dX8_reached_5 : decode kX8_reached.2.1 5 = .ok (.bipush 10, 2) := by decide +kernel
theorem dX8_reached_7 : decode kX8_reached.2.1 7 = .ok (.if_icmp .ge 20, 3) := by decide +kernel
theorem dX8_reached_10 : decode kX8_reached.2.1 10 = .ok (.iload_n 2, 1) := by decide +kernel
theorem dX8_reached_11 : decode kX8_reached.2.1 11 = .ok (.iconst 1, 1) := by decide +kernel
theorem dX8_reached_12 : decode kX8_reached.2.1 12 = .ok (.aload_n 0, 1) := by decide +kernel
theorem dX8_reached_13 : decode kX8_reached.2.1 13 = .ok (.iload_n 1, 1) := by decide +kernel
theorem dX8_reached_14 : decode kX8_reached.2.1 14 = .ok (.iload_n 3, 1) := by decide +kernel
theorem dX8_reached_15 : decode kX8_reached.2.1 15 = .ok (.invokevirtual 72, 3) := by decide +kernel
theorem dX8_reached_18 : decode kX8_reached.2.1 18 = .ok (.ishl, 1) := by decide +kernel
theorem dX8_reached_19 : decode kX8_reached.2.1 19 = .ok (.ior, 1) := by decide +kernel
theorem dX8_reached_20 : decode kX8_reached.2.1 20 = .ok (.istore_n 2, 1) := by decide +kernel
theorem dX8_reached_21 : decode kX8_reached.2.1 21 = .ok (.iinc 3 1, 3) := by decide +kernel
theorem dX8_reached_24 : decode kX8_reached.2.1 24 = .ok (.goto (-20), 3) := by decide +kernel
theorem dX8_reached_27 : decode kX8_reached.2.1 27 = .ok (.iload_n 2, 1) := by decide +kernel
theorem dX8_reached_28 : decode kX8_reached.2.1 28 = .ok (.ireturn, 1) := by decide +kernel
theorem dX9_init_0 : decode kX9_init.2.1 0 = .ok (.aload_n 0, 1) := by decide +kernel
theorem dX9_init_1 : decode kX9_init.2.1 1 = .ok (.invokespecial 5, 3) := by decide +kernel
theorem dX9_init_4 : decode kX9_init.2.1 4 = .ok (.aload_n 0, 1) := by decide +kernel
theorem dX9_init_5 : decode kX9_init.2.1 5 = .ok (.sipush 901, 3) := by decide +kernel
theorem dX9_init_8 : decode kX9_init.2.1 8 = .ok (.newarray .int, 2) := by decide +kernel
theorem dX9_init_10 : decode kX9_init.2.1 10 = .ok (.putfield 11, 3) := by decide +kernel
theorem dX9_init_13 : decode kX9_init.2.1 13 = .ok (.aload_n 0, 1) := by decide +kernel
theorem dX9_init_14 : decode kX9_init.2.1 14 = .ok (.iconst 0, 1) := by decide +kernel
theorem dX9_init_15 : decode kX9_init.2.1 15 = .ok (.putfield 15, 3) := by decide +kernel
theorem dX9_init_18 : decode kX9_init.2.1 18 = .ok (.return_, 1) := by decide +kernel
theorem dX9_at_0 : decode kX9_at.2.1 0 = .ok (.iload_n 1, 1) := by decide +kernel
theorem dX9_at_1 : decode kX9_at.2.1 1 = .ok (.ifCond .lt 32, 3) := by decide +kernel
theorem dX9_at_4 : decode kX9_at.2.1 4 = .ok (.iload_n 1, 1) := by decide +kernel
theorem dX9_at_5 : decode kX9_at.2.1 5 = .ok (.aload_n 0, 1) := by decide +kernel
theorem dX9_at_6 : decode kX9_at.2.1 6 = .ok (.getfield 15, 3) := by decide +kernel
theorem dX9_at_9 : decode kX9_at.2.1 9 = .ok (.if_icmp .ge 24, 3) := by decide +kernel
theorem dX9_at_12 : decode kX9_at.2.1 12 = .ok (.iload_n 1, 1) := by decide +kernel
theorem dX9_at_13 : decode kX9_at.2.1 13 = .ok (.aload_n 0, 1) := by decide +kernel
theorem dX9_at_14 : decode kX9_at.2.1 14 = .ok (.getfield 11, 3) := by decide +kernel
theorem dX9_at_17 : decode kX9_at.2.1 17 = .ok (.arraylength, 1) := by decide +kernel
theorem dX9_at_18 : decode kX9_at.2.1 18 = .ok (.if_icmp .ge 15, 3) := by decide +kernel
theorem dX9_at_21 : decode kX9_at.2.1 21 = .ok (.aload_n 0, 1) := by decide +kernel
theorem dX9_at_22 : decode kX9_at.2.1 22 = .ok (.getfield 11, 3) := by decide +kernel
theorem dX9_at_25 : decode kX9_at.2.1 25 = .ok (.iload_n 1, 1) := by decide +kernel
theorem dX9_at_26 : decode kX9_at.2.1 26 = .ok (.iaload, 1) := by decide +kernel
theorem dX9_at_27 : decode kX9_at.2.1 27 = .ok (.bipush 10, 2) := by decide +kernel
theorem dX9_at_29 : decode kX9_at.2.1 29 = .ok (.ishr, 1) := by decide +kernel
theorem dX9_at_30 : decode kX9_at.2.1 30 = .ok (.goto 6, 3) := by decide +kernel
theorem dX9_at_33 : decode kX9_at.2.1 33 = .ok (.sipush 4000, 3) := by decide +kernel
theorem dX9_at_36 : decode kX9_at.2.1 36 = .ok (.ireturn, 1) := by decide +kernel
theorem dX9_startOf_0 : decode kX9_startOf.2.1 0 = .ok (.iload_n 1, 1) := by decide +kernel
theorem dX9_startOf_1 : decode kX9_startOf.2.1 1 = .ok (.ifCond .lt 33, 3) := by decide +kernel
theorem dX9_startOf_4 : decode kX9_startOf.2.1 4 = .ok (.iload_n 1, 1) := by decide +kernel
theorem dX9_startOf_5 : decode kX9_startOf.2.1 5 = .ok (.aload_n 0, 1) := by decide +kernel
theorem dX9_startOf_6 : decode kX9_startOf.2.1 6 = .ok (.getfield 15, 3) := by decide +kernel
theorem dX9_startOf_9 : decode kX9_startOf.2.1 9 = .ok (.if_icmp .ge 25, 3) := by decide +kernel
theorem dX9_startOf_12 : decode kX9_startOf.2.1 12 = .ok (.iload_n 1, 1) := by decide +kernel
theorem dX9_startOf_13 : decode kX9_startOf.2.1 13 = .ok (.aload_n 0, 1) := by decide +kernel
theorem dX9_startOf_14 : decode kX9_startOf.2.1 14 = .ok (.getfield 11, 3) := by decide +kernel
theorem dX9_startOf_17 : decode kX9_startOf.2.1 17 = .ok (.arraylength, 1) := by decide +kernel
theorem dX9_startOf_18 : decode kX9_startOf.2.1 18 = .ok (.if_icmp .ge 16, 3) := by decide +kernel
theorem dX9_startOf_21 : decode kX9_startOf.2.1 21 = .ok (.aload_n 0, 1) := by decide +kernel
theorem dX9_startOf_22 : decode kX9_startOf.2.1 22 = .ok (.getfield 11, 3) := by decide +kernel
theorem dX9_startOf_25 : decode kX9_startOf.2.1 25 = .ok (.iload_n 1, 1) := by decide +kernel
theorem dX9_startOf_26 : decode kX9_startOf.2.1 26 = .ok (.iaload, 1) := by decide +kernel
theorem dX9_startOf_27 : decode kX9_startOf.2.1 27 = .ok (.sipush 1023, 3) := by decide +kernel
theorem dX9_startOf_30 : decode kX9_startOf.2.1 30 = .ok (.iand, 1) := by decide +kernel
theorem dX9_startOf_31 : decode kX9_startOf.2.1 31 = .ok (.goto 4, 3) := by decide +kernel
theorem dX9_startOf_34 : decode kX9_startOf.2.1 34 = .ok (.iconst 0, 1) := by decide +kernel
theorem dX9_startOf_35 : decode kX9_startOf.2.1 35 = .ok (.ireturn, 1) := by decide +kernel
theorem dX9_scan_0 : decode kX9_scan.2.1 0 = .ok (.iconst 0, 1) := by decide +kernel
theorem dX9_scan_1 : decode kX9_scan.2.1 1 = .ok (.iload_n 2, 1) := by decide +kernel
theorem dX9_scan_2 : decode kX9_scan.2.1 2 = .ok (.aload_n 1, 1) := by decide +kernel
theorem dX9_scan_3 : decode kX9_scan.2.1 3 = .ok (.arraylength, 1) := by decide +kernel
theorem dX9_scan_4 : decode kX9_scan.2.1 4 = .ok (.invokestatic 19, 3) := by decide +kernel
theorem dX9_scan_7 : decode kX9_scan.2.1 7 = .ok (.invokestatic 25, 3) := by decide +kernel
theorem dX9_scan_10 : decode kX9_scan.2.1 10 = .ok (.istore_n 3, 1) := by decide +kernel
theorem dX9_scan_11 : decode kX9_scan.2.1 11 = .ok (.aload_n 0, 1) := by decide +kernel
theorem dX9_scan_12 : decode kX9_scan.2.1 12 = .ok (.iconst 0, 1) := by decide +kernel
theorem dX9_scan_13 : decode kX9_scan.2.1 13 = .ok (.putfield 15, 3) := by decide +kernel
theorem dX9_scan_16 : decode kX9_scan.2.1 16 = .ok (.iconst 0, 1) := by decide +kernel
theorem dX9_scan_17 : decode kX9_scan.2.1 17 = .ok (.istore 4, 2) := by decide +kernel
theorem dX9_scan_19 : decode kX9_scan.2.1 19 = .ok (.iload 4, 2) := by decide +kernel
theorem dX9_scan_21 : decode kX9_scan.2.1 21 = .ok (.iload_n 3, 1) := by decide +kernel
theorem dX9_scan_22 : decode kX9_scan.2.1 22 = .ok (.if_icmp .ge 164, 3) := by decide +kernel
theorem dX9_scan_25 : decode kX9_scan.2.1 25 = .ok (.aload_n 1, 1) := by decide +kernel
theorem dX9_scan_26 : decode kX9_scan.2.1 26 = .ok (.iload 4, 2) := by decide +kernel
theorem dX9_scan_28 : decode kX9_scan.2.1 28 = .ok (.baload, 1) := by decide +kernel
theorem dX9_scan_29 : decode kX9_scan.2.1 29 = .ok (.istore 5, 2) := by decide +kernel
theorem dX9_scan_31 : decode kX9_scan.2.1 31 = .ok (.iload 4, 2) := by decide +kernel
theorem dX9_scan_33 : decode kX9_scan.2.1 33 = .ok (.iconst 1, 1) := by decide +kernel
theorem dX9_scan_34 : decode kX9_scan.2.1 34 = .ok (.iadd, 1) := by decide +kernel
theorem dX9_scan_35 : decode kX9_scan.2.1 35 = .ok (.istore 6, 2) := by decide +kernel
theorem dX9_scan_37 : decode kX9_scan.2.1 37 = .ok (.iload 5, 2) := by decide +kernel
theorem dX9_scan_39 : decode kX9_scan.2.1 39 = .ok (.invokestatic 28, 3) := by decide +kernel
theorem dX9_scan_42 : decode kX9_scan.2.1 42 = .ok (.ifCond .eq 42, 3) := by decide +kernel
theorem dX9_scan_45 : decode kX9_scan.2.1 45 = .ok (.iload 6, 2) := by decide +kernel
theorem dX9_scan_47 : decode kX9_scan.2.1 47 = .ok (.iload_n 3, 1) := by decide +kernel
theorem dX9_scan_48 : decode kX9_scan.2.1 48 = .ok (.if_icmp .ge 19, 3) := by decide +kernel
theorem dX9_scan_51 : decode kX9_scan.2.1 51 = .ok (.aload_n 1, 1) := by decide +kernel
theorem dX9_scan_52 : decode kX9_scan.2.1 52 = .ok (.iload 6, 2) := by decide +kernel
theorem dX9_scan_54 : decode kX9_scan.2.1 54 = .ok (.baload, 1) := by decide +kernel
theorem dX9_scan_55 : decode kX9_scan.2.1 55 = .ok (.invokestatic 28, 3) := by decide +kernel
theorem dX9_scan_58 : decode kX9_scan.2.1 58 = .ok (.ifCond .eq 9, 3) := by decide +kernel
theorem dX9_scan_61 : decode kX9_scan.2.1 61 = .ok (.iinc 6 1, 3) := by decide +kernel
theorem dX9_scan_64 : decode kX9_scan.2.1 64 = .ok (.goto (-19), 3) := by decide +kernel
theorem dX9_scan_67 : decode kX9_scan.2.1 67 = .ok (.aload_n 0, 1) := by decide +kernel
theorem dX9_scan_68 : decode kX9_scan.2.1 68 = .ok (.aload_n 1, 1) := by decide +kernel
theorem dX9_scan_69 : decode kX9_scan.2.1 69 = .ok (.iload 4, 2) := by decide +kernel
theorem dX9_scan_71 : decode kX9_scan.2.1 71 = .ok (.iload 6, 2) := by decide +kernel
theorem dX9_scan_73 : decode kX9_scan.2.1 73 = .ok (.invokestatic 32, 3) := by decide +kernel
theorem dX9_scan_76 : decode kX9_scan.2.1 76 = .ok (.iload 4, 2) := by decide +kernel
theorem dX9_scan_78 : decode kX9_scan.2.1 78 = .ok (.invokevirtual 36, 3) := by decide +kernel
theorem dX9_scan_81 : decode kX9_scan.2.1 81 = .ok (.goto 98, 3) := by decide +kernel
theorem dX9_scan_84 : decode kX9_scan.2.1 84 = .ok (.iload 5, 2) := by decide +kernel
theorem dX9_scan_86 : decode kX9_scan.2.1 86 = .ok (.invokestatic 40, 3) := by decide +kernel
theorem dX9_scan_89 : decode kX9_scan.2.1 89 = .ok (.ifCond .eq 42, 3) := by decide +kernel
theorem dX9_scan_92 : decode kX9_scan.2.1 92 = .ok (.iload 6, 2) := by decide +kernel
theorem dX9_scan_94 : decode kX9_scan.2.1 94 = .ok (.iload_n 3, 1) := by decide +kernel
theorem dX9_scan_95 : decode kX9_scan.2.1 95 = .ok (.if_icmp .ge 19, 3) := by decide +kernel
theorem dX9_scan_98 : decode kX9_scan.2.1 98 = .ok (.aload_n 1, 1) := by decide +kernel
theorem dX9_scan_99 : decode kX9_scan.2.1 99 = .ok (.iload 6, 2) := by decide +kernel
theorem dX9_scan_101 : decode kX9_scan.2.1 101 = .ok (.baload, 1) := by decide +kernel
theorem dX9_scan_102 : decode kX9_scan.2.1 102 = .ok (.invokestatic 40, 3) := by decide +kernel
theorem dX9_scan_105 : decode kX9_scan.2.1 105 = .ok (.ifCond .eq 9, 3) := by decide +kernel
theorem dX9_scan_108 : decode kX9_scan.2.1 108 = .ok (.iinc 6 1, 3) := by decide +kernel
theorem dX9_scan_111 : decode kX9_scan.2.1 111 = .ok (.goto (-19), 3) := by decide +kernel
theorem dX9_scan_114 : decode kX9_scan.2.1 114 = .ok (.aload_n 0, 1) := by decide +kernel
theorem dX9_scan_115 : decode kX9_scan.2.1 115 = .ok (.aload_n 1, 1) := by decide +kernel
theorem dX9_scan_116 : decode kX9_scan.2.1 116 = .ok (.iload 4, 2) := by decide +kernel
theorem dX9_scan_118 : decode kX9_scan.2.1 118 = .ok (.iload 6, 2) := by decide +kernel
theorem dX9_scan_120 : decode kX9_scan.2.1 120 = .ok (.invokestatic 43, 3) := by decide +kernel
theorem dX9_scan_123 : decode kX9_scan.2.1 123 = .ok (.iload 4, 2) := by decide +kernel
theorem dX9_scan_125 : decode kX9_scan.2.1 125 = .ok (.invokevirtual 36, 3) := by decide +kernel
theorem dX9_scan_128 : decode kX9_scan.2.1 128 = .ok (.goto 51, 3) := by decide +kernel
theorem dX9_scan_131 : decode kX9_scan.2.1 131 = .ok (.iload 5, 2) := by decide +kernel
theorem dX9_scan_133 : decode kX9_scan.2.1 133 = .ok (.bipush 10, 2) := by decide +kernel
theorem dX9_scan_135 : decode kX9_scan.2.1 135 = .ok (.if_icmp .eq 44, 3) := by decide +kernel
theorem dX9_scan_138 : decode kX9_scan.2.1 138 = .ok (.iload 5, 2) := by decide +kernel
theorem dX9_scan_140 : decode kX9_scan.2.1 140 = .ok (.bipush 32, 2) := by decide +kernel
theorem dX9_scan_142 : decode kX9_scan.2.1 142 = .ok (.if_icmp .eq 37, 3) := by decide +kernel
theorem dX9_scan_145 : decode kX9_scan.2.1 145 = .ok (.aload_n 0, 1) := by decide +kernel
theorem dX9_scan_146 : decode kX9_scan.2.1 146 = .ok (.iload 5, 2) := by decide +kernel
theorem dX9_scan_148 : decode kX9_scan.2.1 148 = .ok (.ifCond .le 23, 3) := by decide +kernel
theorem dX9_scan_151 : decode kX9_scan.2.1 151 = .ok (.ldc 46, 2) := by decide +kernel
theorem dX9_scan_153 : decode kX9_scan.2.1 153 = .ok (.iload 5, 2) := by decide +kernel
theorem dX9_scan_155 : decode kX9_scan.2.1 155 = .ok (.i2c, 1) := by decide +kernel
theorem dX9_scan_156 : decode kX9_scan.2.1 156 = .ok (.invokevirtual 48, 3) := by decide +kernel
theorem dX9_scan_159 : decode kX9_scan.2.1 159 = .ok (.ifCond .lt 12, 3) := by decide +kernel
theorem dX9_scan_162 : decode kX9_scan.2.1 162 = .ok (.sipush 2000, 3) := by decide +kernel
theorem dX9_scan_165 : decode kX9_scan.2.1 165 = .ok (.iload 5, 2) := by decide +kernel
theorem dX9_scan_167 : decode kX9_scan.2.1 167 = .ok (.iadd, 1) := by decide +kernel
theorem dX9_scan_168 : decode kX9_scan.2.1 168 = .ok (.goto 6, 3) := by decide +kernel
theorem dX9_scan_171 : decode kX9_scan.2.1 171 = .ok (.sipush 3000, 3) := by decide +kernel
theorem dX9_scan_174 : decode kX9_scan.2.1 174 = .ok (.iload 4, 2) := by decide +kernel
theorem dX9_scan_176 : decode kX9_scan.2.1 176 = .ok (.invokevirtual 36, 3) := by decide +kernel
theorem dX9_scan_179 : decode kX9_scan.2.1 179 = .ok (.iload 6, 2) := by decide +kernel
theorem dX9_scan_181 : decode kX9_scan.2.1 181 = .ok (.istore 4, 2) := by decide +kernel
theorem dX9_scan_183 : decode kX9_scan.2.1 183 = .ok (.goto (-164), 3) := by decide +kernel
theorem dX9_scan_186 : decode kX9_scan.2.1 186 = .ok (.aload_n 0, 1) := by decide +kernel
theorem dX9_scan_187 : decode kX9_scan.2.1 187 = .ok (.sipush 4000, 3) := by decide +kernel
theorem dX9_scan_190 : decode kX9_scan.2.1 190 = .ok (.iload_n 3, 1) := by decide +kernel
theorem dX9_scan_191 : decode kX9_scan.2.1 191 = .ok (.invokevirtual 36, 3) := by decide +kernel
theorem dX9_scan_194 : decode kX9_scan.2.1 194 = .ok (.return_, 1) := by decide +kernel
theorem dX9_add_0 : decode kX9_add.2.1 0 = .ok (.aload_n 0, 1) := by decide +kernel
theorem dX9_add_1 : decode kX9_add.2.1 1 = .ok (.getfield 15, 3) := by decide +kernel
theorem dX9_add_4 : decode kX9_add.2.1 4 = .ok (.aload_n 0, 1) := by decide +kernel
theorem dX9_add_5 : decode kX9_add.2.1 5 = .ok (.getfield 11, 3) := by decide +kernel
theorem dX9_add_8 : decode kX9_add.2.1 8 = .ok (.arraylength, 1) := by decide +kernel
theorem dX9_add_9 : decode kX9_add.2.1 9 = .ok (.if_icmp .ge 28, 3) := by decide +kernel
theorem dX9_add_12 : decode kX9_add.2.1 12 = .ok (.aload_n 0, 1) := by decide +kernel
theorem dX9_add_13 : decode kX9_add.2.1 13 = .ok (.getfield 11, 3) := by decide +kernel
theorem dX9_add_16 : decode kX9_add.2.1 16 = .ok (.aload_n 0, 1) := by decide +kernel
theorem dX9_add_17 : decode kX9_add.2.1 17 = .ok (.getfield 15, 3) := by decide +kernel
theorem dX9_add_20 : decode kX9_add.2.1 20 = .ok (.iload_n 1, 1) := by decide +kernel
theorem dX9_add_21 : decode kX9_add.2.1 21 = .ok (.bipush 10, 2) := by decide +kernel
theorem dX9_add_23 : decode kX9_add.2.1 23 = .ok (.ishl, 1) := by decide +kernel
theorem dX9_add_24 : decode kX9_add.2.1 24 = .ok (.iload_n 2, 1) := by decide +kernel
theorem dX9_add_25 : decode kX9_add.2.1 25 = .ok (.ior, 1) := by decide +kernel
theorem dX9_add_26 : decode kX9_add.2.1 26 = .ok (.iastore, 1) := by decide +kernel
theorem dX9_add_27 : decode kX9_add.2.1 27 = .ok (.aload_n 0, 1) := by decide +kernel
theorem dX9_add_28 : decode kX9_add.2.1 28 = .ok (.dup, 1) := by decide +kernel
theorem dX9_add_29 : decode kX9_add.2.1 29 = .ok (.getfield 15, 3) := by decide +kernel
theorem dX9_add_32 : decode kX9_add.2.1 32 = .ok (.iconst 1, 1) := by decide +kernel
theorem dX9_add_33 : decode kX9_add.2.1 33 = .ok (.iadd, 1) := by decide +kernel
theorem dX9_add_34 : decode kX9_add.2.1 34 = .ok (.putfield 15, 3) := by decide +kernel
theorem dX9_add_37 : decode kX9_add.2.1 37 = .ok (.return_, 1) := by decide +kernel
theorem dX9_isSmall_0 : decode kX9_isSmall.2.1 0 = .ok (.iload_n 0, 1) := by decide +kernel
theorem dX9_isSmall_1 : decode kX9_isSmall.2.1 1 = .ok (.bipush 97, 2) := by decide +kernel
theorem dX9_isSmall_3 : decode kX9_isSmall.2.1 3 = .ok (.if_icmp .lt 13, 3) := by decide +kernel
theorem dX9_isSmall_6 : decode kX9_isSmall.2.1 6 = .ok (.iload_n 0, 1) := by decide +kernel
theorem dX9_isSmall_7 : decode kX9_isSmall.2.1 7 = .ok (.bipush 122, 2) := by decide +kernel
theorem dX9_isSmall_9 : decode kX9_isSmall.2.1 9 = .ok (.if_icmp .gt 7, 3) := by decide +kernel
theorem dX9_isSmall_12 : decode kX9_isSmall.2.1 12 = .ok (.iconst 1, 1) := by decide +kernel
theorem dX9_isSmall_13 : decode kX9_isSmall.2.1 13 = .ok (.goto 4, 3) := by decide +kernel
theorem dX9_isSmall_16 : decode kX9_isSmall.2.1 16 = .ok (.iconst 0, 1) := by decide +kernel
theorem dX9_isSmall_17 : decode kX9_isSmall.2.1 17 = .ok (.ireturn, 1) := by decide +kernel
theorem dX9_isDigit_0 : decode kX9_isDigit.2.1 0 = .ok (.iload_n 0, 1) := by decide +kernel
theorem dX9_isDigit_1 : decode kX9_isDigit.2.1 1 = .ok (.bipush 48, 2) := by decide +kernel
theorem dX9_isDigit_3 : decode kX9_isDigit.2.1 3 = .ok (.if_icmp .lt 13, 3) := by decide +kernel
theorem dX9_isDigit_6 : decode kX9_isDigit.2.1 6 = .ok (.iload_n 0, 1) := by decide +kernel
theorem dX9_isDigit_7 : decode kX9_isDigit.2.1 7 = .ok (.bipush 57, 2) := by decide +kernel
theorem dX9_isDigit_9 : decode kX9_isDigit.2.1 9 = .ok (.if_icmp .gt 7, 3) := by decide +kernel
theorem dX9_isDigit_12 : decode kX9_isDigit.2.1 12 = .ok (.iconst 1, 1) := by decide +kernel
theorem dX9_isDigit_13 : decode kX9_isDigit.2.1 13 = .ok (.goto 4, 3) := by decide +kernel
theorem dX9_isDigit_16 : decode kX9_isDigit.2.1 16 = .ok (.iconst 0, 1) := by decide +kernel
theorem dX9_isDigit_17 : decode kX9_isDigit.2.1 17 = .ok (.ireturn, 1) := by decide +kernel
theorem dX9_numberOf_0 : decode kX9_numberOf.2.1 0 = .ok (.iload_n 2, 1) := by decide +kernel
theorem dX9_numberOf_1 : decode kX9_numberOf.2.1 1 = .ok (.iload_n 1, 1) := by decide +kernel
theorem dX9_numberOf_2 : decode kX9_numberOf.2.1 2 = .ok (.isub, 1) := by decide +kernel
theorem dX9_numberOf_3 : decode kX9_numberOf.2.1 3 = .ok (.iconst 3, 1) := by decide +kernel
theorem dX9_numberOf_4 : decode kX9_numberOf.2.1 4 = .ok (.if_icmp .le 7, 3) := by decide +kernel
theorem dX9_numberOf_7 : decode kX9_numberOf.2.1 7 = .ok (.sipush 3000, 3) := by decide +kernel
theorem dX9_numberOf_10 : decode kX9_numberOf.2.1 10 = .ok (.ireturn, 1) := by decide +kernel
theorem dX9_numberOf_11 : decode kX9_numberOf.2.1 11 = .ok (.iconst 0, 1) := by decide +kernel
theorem dX9_numberOf_12 : decode kX9_numberOf.2.1 12 = .ok (.istore_n 3, 1) := by decide +kernel
theorem dX9_numberOf_13 : decode kX9_numberOf.2.1 13 = .ok (.iconst 0, 1) := by decide +kernel
theorem dX9_numberOf_14 : decode kX9_numberOf.2.1 14 = .ok (.iload_n 1, 1) := by decide +kernel
theorem dX9_numberOf_15 : decode kX9_numberOf.2.1 15 = .ok (.invokestatic 25, 3) := by decide +kernel
theorem dX9_numberOf_18 : decode kX9_numberOf.2.1 18 = .ok (.istore 4, 2) := by decide +kernel
theorem dX9_numberOf_20 : decode kX9_numberOf.2.1 20 = .ok (.iload 4, 2) := by decide +kernel
theorem dX9_numberOf_22 : decode kX9_numberOf.2.1 22 = .ok (.iload_n 2, 1) := by decide +kernel
theorem dX9_numberOf_23 : decode kX9_numberOf.2.1 23 = .ok (.if_icmp .ge 29, 3) := by decide +kernel
theorem dX9_numberOf_26 : decode kX9_numberOf.2.1 26 = .ok (.iload 4, 2) := by decide +kernel
theorem dX9_numberOf_28 : decode kX9_numberOf.2.1 28 = .ok (.aload_n 0, 1) := by decide +kernel
theorem dX9_numberOf_29 : decode kX9_numberOf.2.1 29 = .ok (.arraylength, 1) := by decide +kernel
theorem dX9_numberOf_30 : decode kX9_numberOf.2.1 30 = .ok (.if_icmp .ge 22, 3) := by decide +kernel
theorem dX9_numberOf_33 : decode kX9_numberOf.2.1 33 = .ok (.iload_n 3, 1) := by decide +kernel
theorem dX9_numberOf_34 : decode kX9_numberOf.2.1 34 = .ok (.bipush 10, 2) := by decide +kernel
theorem dX9_numberOf_36 : decode kX9_numberOf.2.1 36 = .ok (.imul, 1) := by decide +kernel
theorem dX9_numberOf_37 : decode kX9_numberOf.2.1 37 = .ok (.aload_n 0, 1) := by decide +kernel
theorem dX9_numberOf_38 : decode kX9_numberOf.2.1 38 = .ok (.iload 4, 2) := by decide +kernel
theorem dX9_numberOf_40 : decode kX9_numberOf.2.1 40 = .ok (.baload, 1) := by decide +kernel
theorem dX9_numberOf_41 : decode kX9_numberOf.2.1 41 = .ok (.iadd, 1) := by decide +kernel
theorem dX9_numberOf_42 : decode kX9_numberOf.2.1 42 = .ok (.bipush 48, 2) := by decide +kernel
theorem dX9_numberOf_44 : decode kX9_numberOf.2.1 44 = .ok (.isub, 1) := by decide +kernel
theorem dX9_numberOf_45 : decode kX9_numberOf.2.1 45 = .ok (.istore_n 3, 1) := by decide +kernel
theorem dX9_numberOf_46 : decode kX9_numberOf.2.1 46 = .ok (.iinc 4 1, 3) := by decide +kernel
theorem dX9_numberOf_49 : decode kX9_numberOf.2.1 49 = .ok (.goto (-29), 3) := by decide +kernel
theorem dX9_numberOf_52 : decode kX9_numberOf.2.1 52 = .ok (.iload_n 3, 1) := by decide +kernel
theorem dX9_numberOf_53 : decode kX9_numberOf.2.1 53 = .ok (.ireturn, 1) := by decide +kernel
theorem dX9_wordOf_0 : decode kX9_wordOf.2.1 0 = .ok (.sipush 1000, 3) := by decide +kernel
theorem dX9_wordOf_3 : decode kX9_wordOf.2.1 3 = .ok (.istore_n 3, 1) := by decide +kernel
theorem dX9_wordOf_4 : decode kX9_wordOf.2.1 4 = .ok (.iload_n 1, 1) := by decide +kernel
theorem dX9_wordOf_5 : decode kX9_wordOf.2.1 5 = .ok (.istore 4, 2) := by decide +kernel
theorem dX9_wordOf_7 : decode kX9_wordOf.2.1 7 = .ok (.iconst 1, 1) := by decide +kernel
theorem dX9_wordOf_8 : decode kX9_wordOf.2.1 8 = .ok (.istore 5, 2) := by decide +kernel
theorem dX9_wordOf_10 : decode kX9_wordOf.2.1 10 = .ok (.iconst 0, 1) := by decide +kernel
theorem dX9_wordOf_11 : decode kX9_wordOf.2.1 11 = .ok (.istore 6, 2) := by decide +kernel
theorem dX9_wordOf_13 : decode kX9_wordOf.2.1 13 = .ok (.iload 6, 2) := by decide +kernel
theorem dX9_wordOf_15 : decode kX9_wordOf.2.1 15 = .ok (.ldc 54, 2) := by decide +kernel
theorem dX9_wordOf_17 : decode kX9_wordOf.2.1 17 = .ok (.invokevirtual 56, 3) := by decide +kernel
theorem dX9_wordOf_20 : decode kX9_wordOf.2.1 20 = .ok (.if_icmp .ge 92, 3) := by decide +kernel
theorem dX9_wordOf_23 : decode kX9_wordOf.2.1 23 = .ok (.ldc 54, 2) := by decide +kernel
theorem dX9_wordOf_25 : decode kX9_wordOf.2.1 25 = .ok (.iload 6, 2) := by decide +kernel
theorem dX9_wordOf_27 : decode kX9_wordOf.2.1 27 = .ok (.invokevirtual 60, 3) := by decide +kernel
theorem dX9_wordOf_30 : decode kX9_wordOf.2.1 30 = .ok (.istore 7, 2) := by decide +kernel
theorem dX9_wordOf_32 : decode kX9_wordOf.2.1 32 = .ok (.iload 7, 2) := by decide +kernel
theorem dX9_wordOf_34 : decode kX9_wordOf.2.1 34 = .ok (.bipush 32, 2) := by decide +kernel
theorem dX9_wordOf_36 : decode kX9_wordOf.2.1 36 = .ok (.if_icmp .eq 48, 3) := by decide +kernel
theorem dX9_wordOf_39 : decode kX9_wordOf.2.1 39 = .ok (.iload 5, 2) := by decide +kernel
theorem dX9_wordOf_41 : decode kX9_wordOf.2.1 41 = .ok (.ifCond .eq 34, 3) := by decide +kernel
theorem dX9_wordOf_44 : decode kX9_wordOf.2.1 44 = .ok (.iload 4, 2) := by decide +kernel
theorem dX9_wordOf_46 : decode kX9_wordOf.2.1 46 = .ok (.ifCond .lt 29, 3) := by decide +kernel
theorem dX9_wordOf_49 : decode kX9_wordOf.2.1 49 = .ok (.iload 4, 2) := by decide +kernel
theorem dX9_wordOf_51 : decode kX9_wordOf.2.1 51 = .ok (.iload_n 2, 1) := by decide +kernel
theorem dX9_wordOf_52 : decode kX9_wordOf.2.1 52 = .ok (.if_icmp .ge 23, 3) := by decide +kernel
theorem dX9_wordOf_55 : decode kX9_wordOf.2.1 55 = .ok (.iload 4, 2) := by decide +kernel
theorem dX9_wordOf_57 : decode kX9_wordOf.2.1 57 = .ok (.aload_n 0, 1) := by decide +kernel
theorem dX9_wordOf_58 : decode kX9_wordOf.2.1 58 = .ok (.arraylength, 1) := by decide +kernel
theorem dX9_wordOf_59 : decode kX9_wordOf.2.1 59 = .ok (.if_icmp .ge 16, 3) := by decide +kernel
theorem dX9_wordOf_62 : decode kX9_wordOf.2.1 62 = .ok (.aload_n 0, 1) := by decide +kernel
theorem dX9_wordOf_63 : decode kX9_wordOf.2.1 63 = .ok (.iload 4, 2) := by decide +kernel
theorem dX9_wordOf_65 : decode kX9_wordOf.2.1 65 = .ok (.baload, 1) := by decide +kernel
theorem dX9_wordOf_66 : decode kX9_wordOf.2.1 66 = .ok (.iload 7, 2) := by decide +kernel
theorem dX9_wordOf_68 : decode kX9_wordOf.2.1 68 = .ok (.if_icmp .ne 7, 3) := by decide +kernel
theorem dX9_wordOf_71 : decode kX9_wordOf.2.1 71 = .ok (.iconst 1, 1) := by decide +kernel
theorem dX9_wordOf_72 : decode kX9_wordOf.2.1 72 = .ok (.goto 4, 3) := by decide +kernel
theorem dX9_wordOf_75 : decode kX9_wordOf.2.1 75 = .ok (.iconst 0, 1) := by decide +kernel
theorem dX9_wordOf_76 : decode kX9_wordOf.2.1 76 = .ok (.istore 5, 2) := by decide +kernel
theorem dX9_wordOf_78 : decode kX9_wordOf.2.1 78 = .ok (.iinc 4 1, 3) := by decide +kernel
theorem dX9_wordOf_81 : decode kX9_wordOf.2.1 81 = .ok (.goto 25, 3) := by decide +kernel
theorem dX9_wordOf_84 : decode kX9_wordOf.2.1 84 = .ok (.iload 5, 2) := by decide +kernel
theorem dX9_wordOf_86 : decode kX9_wordOf.2.1 86 = .ok (.ifCond .eq 11, 3) := by decide +kernel
theorem dX9_wordOf_89 : decode kX9_wordOf.2.1 89 = .ok (.iload 4, 2) := by decide +kernel
theorem dX9_wordOf_91 : decode kX9_wordOf.2.1 91 = .ok (.iload_n 2, 1) := by decide +kernel
theorem dX9_wordOf_92 : decode kX9_wordOf.2.1 92 = .ok (.if_icmp .ne 5, 3) := by decide +kernel
theorem dX9_wordOf_95 : decode kX9_wordOf.2.1 95 = .ok (.iload_n 3, 1) := by decide +kernel
theorem dX9_wordOf_96 : decode kX9_wordOf.2.1 96 = .ok (.ireturn, 1) := by decide +kernel
theorem dX9_wordOf_97 : decode kX9_wordOf.2.1 97 = .ok (.iinc 3 1, 3) := by decide +kernel
theorem dX9_wordOf_100 : decode kX9_wordOf.2.1 100 = .ok (.iload_n 1, 1) := by decide +kernel
theorem dX9_wordOf_101 : decode kX9_wordOf.2.1 101 = .ok (.istore 4, 2) := by decide +kernel
theorem dX9_wordOf_103 : decode kX9_wordOf.2.1 103 = .ok (.iconst 1, 1) := by decide +kernel
theorem dX9_wordOf_104 : decode kX9_wordOf.2.1 104 = .ok (.istore 5, 2) := by decide +kernel
theorem dX9_wordOf_106 : decode kX9_wordOf.2.1 106 = .ok (.iinc 6 1, 3) := by decide +kernel
theorem dX9_wordOf_109 : decode kX9_wordOf.2.1 109 = .ok (.goto (-96), 3) := by decide +kernel
theorem dX9_wordOf_112 : decode kX9_wordOf.2.1 112 = .ok (.iload_n 3, 1) := by decide +kernel
theorem dX9_wordOf_113 : decode kX9_wordOf.2.1 113 = .ok (.ireturn, 1) := by decide +kernel
theorem dX10_init_0 : decode kX10_init.2.1 0 = .ok (.aload_n 0, 1) := by decide +kernel
theorem dX10_init_1 : decode kX10_init.2.1 1 = .ok (.invokespecial 3, 3) := by decide +kernel
theorem dX10_init_4 : decode kX10_init.2.1 4 = .ok (.aload_n 0, 1) := by decide +kernel
theorem dX10_init_5 : decode kX10_init.2.1 5 = .ok (.iconst 0, 1) := by decide +kernel
theorem dX10_init_6 : decode kX10_init.2.1 6 = .ok (.putfield 9, 3) := by decide +kernel
theorem dX10_init_9 : decode kX10_init.2.1 9 = .ok (.aload_n 0, 1) := by decide +kernel
theorem dX10_init_10 : decode kX10_init.2.1 10 = .ok (.iconst 0, 1) := by decide +kernel
theorem dX10_init_11 : decode kX10_init.2.1 11 = .ok (.putfield 15, 3) := by decide +kernel
theorem dX10_init_14 : decode kX10_init.2.1 14 = .ok (.aload_n 0, 1) := by decide +kernel
theorem dX10_init_15 : decode kX10_init.2.1 15 = .ok (.iconst 0, 1) := by decide +kernel
theorem dX10_init_16 : decode kX10_init.2.1 16 = .ok (.putfield 19, 3) := by decide +kernel
theorem dX10_init_19 : decode kX10_init.2.1 19 = .ok (.aload_n 0, 1) := by decide +kernel
theorem dX10_init_20 : decode kX10_init.2.1 20 = .ok (.bipush 40, 2) := by decide +kernel
theorem dX10_init_22 : decode kX10_init.2.1 22 = .ok (.newarray .long, 2) := by decide +kernel
theorem dX10_init_24 : decode kX10_init.2.1 24 = .ok (.putfield 22, 3) := by decide +kernel
theorem dX10_init_27 : decode kX10_init.2.1 27 = .ok (.return_, 1) := by decide +kernel
theorem dX10_begin_0 : decode kX10_begin.2.1 0 = .ok (.aload_n 0, 1) := by decide +kernel
theorem dX10_begin_1 : decode kX10_begin.2.1 1 = .ok (.iconst 1, 1) := by decide +kernel
theorem dX10_begin_2 : decode kX10_begin.2.1 2 = .ok (.putfield 9, 3) := by decide +kernel
theorem dX10_begin_5 : decode kX10_begin.2.1 5 = .ok (.aload_n 0, 1) := by decide +kernel
theorem dX10_begin_6 : decode kX10_begin.2.1 6 = .ok (.iload_n 1, 1) := by decide +kernel
theorem dX10_begin_7 : decode kX10_begin.2.1 7 = .ok (.putfield 19, 3) := by decide +kernel
theorem dX10_begin_10 : decode kX10_begin.2.1 10 = .ok (.aload_n 0, 1) := by decide +kernel
theorem dX10_begin_11 : decode kX10_begin.2.1 11 = .ok (.iconst 0, 1) := by decide +kernel
theorem dX10_begin_12 : decode kX10_begin.2.1 12 = .ok (.bipush 40, 2) := by decide +kernel
theorem dX10_begin_14 : decode kX10_begin.2.1 14 = .ok (.iload_n 2, 1) := by decide +kernel
theorem dX10_begin_15 : decode kX10_begin.2.1 15 = .ok (.invokestatic 26, 3) := by decide +kernel
theorem dX10_begin_18 : decode kX10_begin.2.1 18 = .ok (.invokestatic 32, 3) := by decide +kernel
theorem dX10_begin_21 : decode kX10_begin.2.1 21 = .ok (.putfield 15, 3) := by decide +kernel
theorem dX10_begin_24 : decode kX10_begin.2.1 24 = .ok (.aload_n 0, 1) := by decide +kernel
theorem dX10_begin_25 : decode kX10_begin.2.1 25 = .ok (.getfield 22, 3) := by decide +kernel
theorem dX10_begin_28 : decode kX10_begin.2.1 28 = .ok (.lconst 0, 1) := by decide +kernel
theorem dX10_begin_29 : decode kX10_begin.2.1 29 = .ok (.invokestatic 35, 3) := by decide +kernel
theorem dX10_begin_32 : decode kX10_begin.2.1 32 = .ok (.return_, 1) := by decide +kernel
theorem dX10_at_0 : decode kX10_at.2.1 0 = .ok (.iload_n 1, 1) := by decide +kernel
theorem dX10_at_1 : decode kX10_at.2.1 1 = .ok (.ifCond .lt 21, 3) := by decide +kernel
theorem dX10_at_4 : decode kX10_at.2.1 4 = .ok (.iload_n 1, 1) := by decide +kernel
theorem dX10_at_5 : decode kX10_at.2.1 5 = .ok (.aload_n 0, 1) := by decide +kernel
theorem dX10_at_6 : decode kX10_at.2.1 6 = .ok (.getfield 22, 3) := by decide +kernel
theorem dX10_at_9 : decode kX10_at.2.1 9 = .ok (.arraylength, 1) := by decide +kernel
theorem dX10_at_10 : decode kX10_at.2.1 10 = .ok (.if_icmp .ge 12, 3) := by decide +kernel
theorem dX10_at_13 : decode kX10_at.2.1 13 = .ok (.aload_n 0, 1) := by decide +kernel
theorem dX10_at_14 : decode kX10_at.2.1 14 = .ok (.getfield 22, 3) := by decide +kernel
theorem dX10_at_17 : decode kX10_at.2.1 17 = .ok (.iload_n 1, 1) := by decide +kernel
theorem dX10_at_18 : decode kX10_at.2.1 18 = .ok (.laload, 1) := by decide +kernel
theorem dX10_at_19 : decode kX10_at.2.1 19 = .ok (.goto 4, 3) := by decide +kernel
theorem dX10_at_22 : decode kX10_at.2.1 22 = .ok (.lconst 0, 1) := by decide +kernel
theorem dX10_at_23 : decode kX10_at.2.1 23 = .ok (.lreturn, 1) := by decide +kernel
theorem dX10_put_0 : decode kX10_put.2.1 0 = .ok (.iload_n 1, 1) := by decide +kernel
theorem dX10_put_1 : decode kX10_put.2.1 1 = .ok (.ifCond .lt 12, 3) := by decide +kernel
theorem dX10_put_4 : decode kX10_put.2.1 4 = .ok (.iload_n 1, 1) := by decide +kernel
theorem dX10_put_5 : decode kX10_put.2.1 5 = .ok (.aload_n 0, 1) := by decide +kernel
theorem dX10_put_6 : decode kX10_put.2.1 6 = .ok (.getfield 22, 3) := by decide +kernel
theorem dX10_put_9 : decode kX10_put.2.1 9 = .ok (.arraylength, 1) := by decide +kernel
theorem dX10_put_10 : decode kX10_put.2.1 10 = .ok (.if_icmp .lt 5, 3) := by decide +kernel
theorem dX10_put_13 : decode kX10_put.2.1 13 = .ok (.lconst 0, 1) := by decide +kernel
theorem dX10_put_14 : decode kX10_put.2.1 14 = .ok (.lreturn, 1) := by decide +kernel
theorem dX10_put_15 : decode kX10_put.2.1 15 = .ok (.aload_n 0, 1) := by decide +kernel
theorem dX10_put_16 : decode kX10_put.2.1 16 = .ok (.getfield 22, 3) := by decide +kernel
theorem dX10_put_19 : decode kX10_put.2.1 19 = .ok (.iload_n 1, 1) := by decide +kernel
theorem dX10_put_20 : decode kX10_put.2.1 20 = .ok (.aload_n 0, 1) := by decide +kernel
theorem dX10_put_21 : decode kX10_put.2.1 21 = .ok (.lload_n 2, 1) := by decide +kernel
theorem dX10_put_22 : decode kX10_put.2.1 22 = .ok (.invokevirtual 41, 3) := by decide +kernel
theorem dX10_put_25 : decode kX10_put.2.1 25 = .ok (.lastore, 1) := by decide +kernel
theorem dX10_put_26 : decode kX10_put.2.1 26 = .ok (.aload_n 0, 1) := by decide +kernel
theorem dX10_put_27 : decode kX10_put.2.1 27 = .ok (.getfield 22, 3) := by decide +kernel
theorem dX10_put_30 : decode kX10_put.2.1 30 = .ok (.iload_n 1, 1) := by decide +kernel
theorem dX10_put_31 : decode kX10_put.2.1 31 = .ok (.laload, 1) := by decide +kernel
theorem dX10_put_32 : decode kX10_put.2.1 32 = .ok (.lreturn, 1) := by decide +kernel
theorem dX10_cut_0 : decode kX10_cut.2.1 0 = .ok (.aload_n 0, 1) := by decide +kernel
theorem dX10_cut_1 : decode kX10_cut.2.1 1 = .ok (.getfield 19, 3) := by decide +kernel
theorem dX10_cut_4 : decode kX10_cut.2.1 4 = .ok (.tableswitch 42 0 2 #[28, 33, 38], 28) := by decide +kernel
theorem dX10_cut_32 : decode kX10_cut.2.1 32 = .ok (.lload_n 1, 1) := by decide +kernel
theorem dX10_cut_33 : decode kX10_cut.2.1 33 = .ok (.l2i, 1) := by decide +kernel
theorem dX10_cut_34 : decode kX10_cut.2.1 34 = .ok (.i2b, 1) := by decide +kernel
theorem dX10_cut_35 : decode kX10_cut.2.1 35 = .ok (.i2l, 1) := by decide +kernel
theorem dX10_cut_36 : decode kX10_cut.2.1 36 = .ok (.lreturn, 1) := by decide +kernel
theorem dX10_cut_37 : decode kX10_cut.2.1 37 = .ok (.lload_n 1, 1) := by decide +kernel
theorem dX10_cut_38 : decode kX10_cut.2.1 38 = .ok (.l2i, 1) := by decide +kernel
theorem dX10_cut_39 : decode kX10_cut.2.1 39 = .ok (.i2s, 1) := by decide +kernel
theorem dX10_cut_40 : decode kX10_cut.2.1 40 = .ok (.i2l, 1) := by decide +kernel
theorem dX10_cut_41 : decode kX10_cut.2.1 41 = .ok (.lreturn, 1) := by decide +kernel
theorem dX10_cut_42 : decode kX10_cut.2.1 42 = .ok (.lload_n 1, 1) := by decide +kernel
theorem dX10_cut_43 : decode kX10_cut.2.1 43 = .ok (.l2i, 1) := by decide +kernel
theorem dX10_cut_44 : decode kX10_cut.2.1 44 = .ok (.i2l, 1) := by decide +kernel
theorem dX10_cut_45 : decode kX10_cut.2.1 45 = .ok (.lreturn, 1) := by decide +kernel
theorem dX10_cut_46 : decode kX10_cut.2.1 46 = .ok (.lload_n 1, 1) := by decide +kernel
theorem dX10_cut_47 : decode kX10_cut.2.1 47 = .ok (.lreturn, 1) := by decide +kernel
theorem dX11_init_0 : decode kX11_init.2.1 0 = .ok (.aload_n 0, 1) := by decide +kernel
theorem dX11_init_1 : decode kX11_init.2.1 1 = .ok (.invokespecial 1, 3) := by decide +kernel
theorem dX11_init_4 : decode kX11_init.2.1 4 = .ok (.aload_n 0, 1) := by decide +kernel
theorem dX11_init_5 : decode kX11_init.2.1 5 = .ok (.sipush 900, 3) := by decide +kernel
theorem dX11_init_8 : decode kX11_init.2.1 8 = .ok (.newarray .byte, 2) := by decide +kernel
theorem dX11_init_10 : decode kX11_init.2.1 10 = .ok (.putfield 9, 3) := by decide +kernel
theorem dX11_init_13 : decode kX11_init.2.1 13 = .ok (.aload_n 0, 1) := by decide +kernel
theorem dX11_init_14 : decode kX11_init.2.1 14 = .ok (.iconst 0, 1) := by decide +kernel
theorem dX11_init_15 : decode kX11_init.2.1 15 = .ok (.putfield 13, 3) := by decide +kernel
theorem dX11_init_18 : decode kX11_init.2.1 18 = .ok (.aload_n 0, 1) := by decide +kernel
theorem dX11_init_19 : decode kX11_init.2.1 19 = .ok (.new 17, 3) := by decide +kernel
theorem dX11_init_22 : decode kX11_init.2.1 22 = .ok (.dup, 1) := by decide +kernel
theorem dX11_init_23 : decode kX11_init.2.1 23 = .ok (.invokespecial 19, 3) := by decide +kernel
theorem dX11_init_26 : decode kX11_init.2.1 26 = .ok (.putfield 20, 3) := by decide +kernel
theorem dX11_init_29 : decode kX11_init.2.1 29 = .ok (.aload_n 0, 1) := by decide +kernel
theorem dX11_init_30 : decode kX11_init.2.1 30 = .ok (.new 24, 3) := by decide +kernel
theorem dX11_init_33 : decode kX11_init.2.1 33 = .ok (.dup, 1) := by decide +kernel
theorem dX11_init_34 : decode kX11_init.2.1 34 = .ok (.invokespecial 26, 3) := by decide +kernel
theorem dX11_init_37 : decode kX11_init.2.1 37 = .ok (.putfield 27, 3) := by decide +kernel
theorem dX11_init_40 : decode kX11_init.2.1 40 = .ok (.aload_n 0, 1) := by decide +kernel
theorem dX11_init_41 : decode kX11_init.2.1 41 = .ok (.new 31, 3) := by decide +kernel
theorem dX11_init_44 : decode kX11_init.2.1 44 = .ok (.dup, 1) := by decide +kernel
theorem dX11_init_45 : decode kX11_init.2.1 45 = .ok (.invokespecial 33, 3) := by decide +kernel
theorem dX11_init_48 : decode kX11_init.2.1 48 = .ok (.putfield 34, 3) := by decide +kernel
theorem dX11_init_51 : decode kX11_init.2.1 51 = .ok (.aload_n 0, 1) := by decide +kernel
theorem dX11_init_52 : decode kX11_init.2.1 52 = .ok (.new 31, 3) := by decide +kernel
theorem dX11_init_55 : decode kX11_init.2.1 55 = .ok (.dup, 1) := by decide +kernel
theorem dX11_init_56 : decode kX11_init.2.1 56 = .ok (.invokespecial 33, 3) := by decide +kernel
theorem dX11_init_59 : decode kX11_init.2.1 59 = .ok (.putfield 38, 3) := by decide +kernel
theorem dX11_init_62 : decode kX11_init.2.1 62 = .ok (.aload_n 0, 1) := by decide +kernel
theorem dX11_init_63 : decode kX11_init.2.1 63 = .ok (.new 41, 3) := by decide +kernel
theorem dX11_init_66 : decode kX11_init.2.1 66 = .ok (.dup, 1) := by decide +kernel
theorem dX11_init_67 : decode kX11_init.2.1 67 = .ok (.invokespecial 43, 3) := by decide +kernel
theorem dX11_init_70 : decode kX11_init.2.1 70 = .ok (.putfield 44, 3) := by decide +kernel
theorem dX11_init_73 : decode kX11_init.2.1 73 = .ok (.aload_n 0, 1) := by decide +kernel
theorem dX11_init_74 : decode kX11_init.2.1 74 = .ok (.iconst 4, 1) := by decide +kernel
theorem dX11_init_75 : decode kX11_init.2.1 75 = .ok (.anewarray 48, 3) := by decide +kernel
theorem dX11_init_78 : decode kX11_init.2.1 78 = .ok (.putfield 50, 3) := by decide +kernel
theorem dX11_init_81 : decode kX11_init.2.1 81 = .ok (.aload_n 0, 1) := by decide +kernel
theorem dX11_init_82 : decode kX11_init.2.1 82 = .ok (.iconst 2, 1) := by decide +kernel
theorem dX11_init_83 : decode kX11_init.2.1 83 = .ok (.anewarray 24, 3) := by decide +kernel
theorem dX11_init_86 : decode kX11_init.2.1 86 = .ok (.putfield 54, 3) := by decide +kernel
theorem dX11_init_89 : decode kX11_init.2.1 89 = .ok (.aload_n 0, 1) := by decide +kernel
theorem dX11_init_90 : decode kX11_init.2.1 90 = .ok (.iconst 2, 1) := by decide +kernel
theorem dX11_init_91 : decode kX11_init.2.1 91 = .ok (.anewarray 31, 3) := by decide +kernel
theorem dX11_init_94 : decode kX11_init.2.1 94 = .ok (.putfield 58, 3) := by decide +kernel
theorem dX11_init_97 : decode kX11_init.2.1 97 = .ok (.aload_n 0, 1) := by decide +kernel
theorem dX11_init_98 : decode kX11_init.2.1 98 = .ok (.new 62, 3) := by decide +kernel
theorem dX11_init_101 : decode kX11_init.2.1 101 = .ok (.dup, 1) := by decide +kernel
theorem dX11_init_102 : decode kX11_init.2.1 102 = .ok (.invokespecial 64, 3) := by decide +kernel
theorem dX11_init_105 : decode kX11_init.2.1 105 = .ok (.putfield 65, 3) := by decide +kernel
theorem dX11_init_108 : decode kX11_init.2.1 108 = .ok (.aload_n 0, 1) := by decide +kernel
theorem dX11_init_109 : decode kX11_init.2.1 109 = .ok (.iconst 4, 1) := by decide +kernel
theorem dX11_init_110 : decode kX11_init.2.1 110 = .ok (.anewarray 69, 3) := by decide +kernel
theorem dX11_init_113 : decode kX11_init.2.1 113 = .ok (.putfield 71, 3) := by decide +kernel
theorem dX11_init_116 : decode kX11_init.2.1 116 = .ok (.aload_n 0, 1) := by decide +kernel
theorem dX11_init_117 : decode kX11_init.2.1 117 = .ok (.bipush 21, 2) := by decide +kernel
theorem dX11_init_119 : decode kX11_init.2.1 119 = .ok (.newarray .int, 2) := by decide +kernel
theorem dX11_init_121 : decode kX11_init.2.1 121 = .ok (.putfield 75, 3) := by decide +kernel
theorem dX11_init_124 : decode kX11_init.2.1 124 = .ok (.aload_n 0, 1) := by decide +kernel
theorem dX11_init_125 : decode kX11_init.2.1 125 = .ok (.new 79, 3) := by decide +kernel
theorem dX11_init_128 : decode kX11_init.2.1 128 = .ok (.dup, 1) := by decide +kernel
theorem dX11_init_129 : decode kX11_init.2.1 129 = .ok (.invokespecial 81, 3) := by decide +kernel
theorem dX11_init_132 : decode kX11_init.2.1 132 = .ok (.putfield 82, 3) := by decide +kernel
theorem dX11_init_135 : decode kX11_init.2.1 135 = .ok (.aload_n 0, 1) := by decide +kernel
theorem dX11_init_136 : decode kX11_init.2.1 136 = .ok (.aconst_null, 1) := by decide +kernel
theorem dX11_init_137 : decode kX11_init.2.1 137 = .ok (.putfield 86, 3) := by decide +kernel
theorem dX11_init_140 : decode kX11_init.2.1 140 = .ok (.aload_n 0, 1) := by decide +kernel
theorem dX11_init_141 : decode kX11_init.2.1 141 = .ok (.bipush 16, 2) := by decide +kernel
theorem dX11_init_143 : decode kX11_init.2.1 143 = .ok (.newarray .int, 2) := by decide +kernel
theorem dX11_init_145 : decode kX11_init.2.1 145 = .ok (.putfield 90, 3) := by decide +kernel
theorem dX11_init_148 : decode kX11_init.2.1 148 = .ok (.aload_n 0, 1) := by decide +kernel
theorem dX11_init_149 : decode kX11_init.2.1 149 = .ok (.iconst 0, 1) := by decide +kernel
theorem dX11_init_150 : decode kX11_init.2.1 150 = .ok (.putfield 93, 3) := by decide +kernel
theorem dX11_init_153 : decode kX11_init.2.1 153 = .ok (.iconst 0, 1) := by decide +kernel
theorem dX11_init_154 : decode kX11_init.2.1 154 = .ok (.istore_n 1, 1) := by decide +kernel
theorem dX11_init_155 : decode kX11_init.2.1 155 = .ok (.iload_n 1, 1) := by decide +kernel
theorem dX11_init_156 : decode kX11_init.2.1 156 = .ok (.aload_n 0, 1) := by decide +kernel
theorem dX11_init_157 : decode kX11_init.2.1 157 = .ok (.getfield 50, 3) := by decide +kernel
theorem dX11_init_160 : decode kX11_init.2.1 160 = .ok (.arraylength, 1) := by decide +kernel
theorem dX11_init_161 : decode kX11_init.2.1 161 = .ok (.if_icmp .ge 22, 3) := by decide +kernel
theorem dX11_init_164 : decode kX11_init.2.1 164 = .ok (.aload_n 0, 1) := by decide +kernel
theorem dX11_init_165 : decode kX11_init.2.1 165 = .ok (.getfield 50, 3) := by decide +kernel
theorem dX11_init_168 : decode kX11_init.2.1 168 = .ok (.iload_n 1, 1) := by decide +kernel
theorem dX11_init_169 : decode kX11_init.2.1 169 = .ok (.new 48, 3) := by decide +kernel
theorem dX11_init_172 : decode kX11_init.2.1 172 = .ok (.dup, 1) := by decide +kernel
theorem dX11_init_173 : decode kX11_init.2.1 173 = .ok (.invokespecial 96, 3) := by decide +kernel
theorem dX11_init_176 : decode kX11_init.2.1 176 = .ok (.aastore, 1) := by decide +kernel
theorem dX11_init_177 : decode kX11_init.2.1 177 = .ok (.iinc 1 1, 3) := by decide +kernel
theorem dX11_init_180 : decode kX11_init.2.1 180 = .ok (.goto (-25), 3) := by decide +kernel
theorem dX11_init_183 : decode kX11_init.2.1 183 = .ok (.iconst 0, 1) := by decide +kernel
theorem dX11_init_184 : decode kX11_init.2.1 184 = .ok (.istore_n 1, 1) := by decide +kernel
theorem dX11_init_185 : decode kX11_init.2.1 185 = .ok (.iload_n 1, 1) := by decide +kernel
theorem dX11_init_186 : decode kX11_init.2.1 186 = .ok (.aload_n 0, 1) := by decide +kernel
theorem dX11_init_187 : decode kX11_init.2.1 187 = .ok (.getfield 58, 3) := by decide +kernel
theorem dX11_init_190 : decode kX11_init.2.1 190 = .ok (.arraylength, 1) := by decide +kernel
theorem dX11_init_191 : decode kX11_init.2.1 191 = .ok (.if_icmp .ge 22, 3) := by decide +kernel
theorem dX11_init_194 : decode kX11_init.2.1 194 = .ok (.aload_n 0, 1) := by decide +kernel
theorem dX11_init_195 : decode kX11_init.2.1 195 = .ok (.getfield 58, 3) := by decide +kernel
theorem dX11_init_198 : decode kX11_init.2.1 198 = .ok (.iload_n 1, 1) := by decide +kernel
theorem dX11_init_199 : decode kX11_init.2.1 199 = .ok (.new 31, 3) := by decide +kernel
theorem dX11_init_202 : decode kX11_init.2.1 202 = .ok (.dup, 1) := by decide +kernel
theorem dX11_init_203 : decode kX11_init.2.1 203 = .ok (.invokespecial 33, 3) := by decide +kernel
theorem dX11_init_206 : decode kX11_init.2.1 206 = .ok (.aastore, 1) := by decide +kernel
theorem dX11_init_207 : decode kX11_init.2.1 207 = .ok (.iinc 1 1, 3) := by decide +kernel
theorem dX11_init_210 : decode kX11_init.2.1 210 = .ok (.goto (-25), 3) := by decide +kernel
theorem dX11_init_213 : decode kX11_init.2.1 213 = .ok (.iconst 0, 1) := by decide +kernel
theorem dX11_init_214 : decode kX11_init.2.1 214 = .ok (.istore_n 1, 1) := by decide +kernel
theorem dX11_init_215 : decode kX11_init.2.1 215 = .ok (.iload_n 1, 1) := by decide +kernel
theorem dX11_init_216 : decode kX11_init.2.1 216 = .ok (.aload_n 0, 1) := by decide +kernel
theorem dX11_init_217 : decode kX11_init.2.1 217 = .ok (.getfield 71, 3) := by decide +kernel
theorem dX11_init_220 : decode kX11_init.2.1 220 = .ok (.arraylength, 1) := by decide +kernel
theorem dX11_init_221 : decode kX11_init.2.1 221 = .ok (.if_icmp .ge 22, 3) := by decide +kernel
theorem dX11_init_224 : decode kX11_init.2.1 224 = .ok (.aload_n 0, 1) := by decide +kernel
theorem dX11_init_225 : decode kX11_init.2.1 225 = .ok (.getfield 71, 3) := by decide +kernel
theorem dX11_init_228 : decode kX11_init.2.1 228 = .ok (.iload_n 1, 1) := by decide +kernel
theorem dX11_init_229 : decode kX11_init.2.1 229 = .ok (.new 69, 3) := by decide +kernel
theorem dX11_init_232 : decode kX11_init.2.1 232 = .ok (.dup, 1) := by decide +kernel
theorem dX11_init_233 : decode kX11_init.2.1 233 = .ok (.invokespecial 97, 3) := by decide +kernel
theorem dX11_init_236 : decode kX11_init.2.1 236 = .ok (.aastore, 1) := by decide +kernel
theorem dX11_init_237 : decode kX11_init.2.1 237 = .ok (.iinc 1 1, 3) := by decide +kernel
theorem dX11_init_240 : decode kX11_init.2.1 240 = .ok (.goto (-25), 3) := by decide +kernel
theorem dX11_init_243 : decode kX11_init.2.1 243 = .ok (.return_, 1) := by decide +kernel
theorem dX11_feed_0 : decode kX11_feed.2.1 0 = .ok (.aload_n 0, 1) := by decide +kernel
theorem dX11_feed_1 : decode kX11_feed.2.1 1 = .ok (.getfield 13, 3) := by decide +kernel
theorem dX11_feed_4 : decode kX11_feed.2.1 4 = .ok (.bipush 20, 2) := by decide +kernel
theorem dX11_feed_6 : decode kX11_feed.2.1 6 = .ok (.iadd, 1) := by decide +kernel
theorem dX11_feed_7 : decode kX11_feed.2.1 7 = .ok (.sipush 900, 3) := by decide +kernel
theorem dX11_feed_10 : decode kX11_feed.2.1 10 = .ok (.if_icmp .le 6, 3) := by decide +kernel
theorem dX11_feed_13 : decode kX11_feed.2.1 13 = .ok (.bipush (-5), 2) := by decide +kernel
theorem dX11_feed_15 : decode kX11_feed.2.1 15 = .ok (.ireturn, 1) := by decide +kernel
theorem dX11_feed_16 : decode kX11_feed.2.1 16 = .ok (.aload_n 0, 1) := by decide +kernel
theorem dX11_feed_17 : decode kX11_feed.2.1 17 = .ok (.iload_n 1, 1) := by decide +kernel
theorem dX11_feed_18 : decode kX11_feed.2.1 18 = .ok (.invokevirtual 98, 3) := by decide +kernel
theorem dX11_feed_21 : decode kX11_feed.2.1 21 = .ok (.aload_n 0, 1) := by decide +kernel
theorem dX11_feed_22 : decode kX11_feed.2.1 22 = .ok (.iload_n 2, 1) := by decide +kernel
theorem dX11_feed_23 : decode kX11_feed.2.1 23 = .ok (.invokevirtual 98, 3) := by decide +kernel
theorem dX11_feed_26 : decode kX11_feed.2.1 26 = .ok (.aload_n 0, 1) := by decide +kernel
theorem dX11_feed_27 : decode kX11_feed.2.1 27 = .ok (.iload_n 3, 1) := by decide +kernel
theorem dX11_feed_28 : decode kX11_feed.2.1 28 = .ok (.invokevirtual 98, 3) := by decide +kernel
theorem dX11_feed_31 : decode kX11_feed.2.1 31 = .ok (.aload_n 0, 1) := by decide +kernel
theorem dX11_feed_32 : decode kX11_feed.2.1 32 = .ok (.iload 4, 2) := by decide +kernel
theorem dX11_feed_34 : decode kX11_feed.2.1 34 = .ok (.invokevirtual 98, 3) := by decide +kernel
theorem dX11_feed_37 : decode kX11_feed.2.1 37 = .ok (.aload_n 0, 1) := by decide +kernel
theorem dX11_feed_38 : decode kX11_feed.2.1 38 = .ok (.iload 5, 2) := by decide +kernel
theorem dX11_feed_40 : decode kX11_feed.2.1 40 = .ok (.invokevirtual 98, 3) := by decide +kernel
theorem dX11_feed_43 : decode kX11_feed.2.1 43 = .ok (.aload_n 0, 1) := by decide +kernel
theorem dX11_feed_44 : decode kX11_feed.2.1 44 = .ok (.getfield 13, 3) := by decide +kernel
theorem dX11_feed_47 : decode kX11_feed.2.1 47 = .ok (.ireturn, 1) := by decide +kernel
theorem dX11_butt_0 : decode kX11_butt.2.1 0 = .ok (.iload_n 1, 1) := by decide +kernel
theorem dX11_butt_1 : decode kX11_butt.2.1 1 = .ok (.ifCond .lt 11, 3) := by decide +kernel
theorem dX11_butt_4 : decode kX11_butt.2.1 4 = .ok (.iload_n 1, 1) := by decide +kernel
theorem dX11_butt_5 : decode kX11_butt.2.1 5 = .ok (.aload_n 0, 1) := by decide +kernel
theorem dX11_butt_6 : decode kX11_butt.2.1 6 = .ok (.getfield 13, 3) := by decide +kernel
theorem dX11_butt_9 : decode kX11_butt.2.1 9 = .ok (.if_icmp .le 6, 3) := by decide +kernel
theorem dX11_butt_12 : decode kX11_butt.2.1 12 = .ok (.bipush (-3), 2) := by decide +kernel
theorem dX11_butt_14 : decode kX11_butt.2.1 14 = .ok (.ireturn, 1) := by decide +kernel
theorem dX11_butt_15 : decode kX11_butt.2.1 15 = .ok (.aload_n 0, 1) := by decide +kernel
theorem dX11_butt_16 : decode kX11_butt.2.1 16 = .ok (.iconst 0, 1) := by decide +kernel
theorem dX11_butt_17 : decode kX11_butt.2.1 17 = .ok (.putfield 13, 3) := by decide +kernel
theorem dX11_butt_20 : decode kX11_butt.2.1 20 = .ok (.aload_n 0, 1) := by decide +kernel
theorem dX11_butt_21 : decode kX11_butt.2.1 21 = .ok (.getfield 20, 3) := by decide +kernel
theorem dX11_butt_24 : decode kX11_butt.2.1 24 = .ok (.aload_n 0, 1) := by decide +kernel
theorem dX11_butt_25 : decode kX11_butt.2.1 25 = .ok (.getfield 9, 3) := by decide +kernel
theorem dX11_butt_28 : decode kX11_butt.2.1 28 = .ok (.iload_n 1, 1) := by decide +kernel
theorem dX11_butt_29 : decode kX11_butt.2.1 29 = .ok (.invokevirtual 102, 3) := by decide +kernel
theorem dX11_butt_32 : decode kX11_butt.2.1 32 = .ok (.astore_n 2, 1) := by decide +kernel
theorem dX11_butt_33 : decode kX11_butt.2.1 33 = .ok (.aload_n 2, 1) := by decide +kernel
theorem dX11_butt_34 : decode kX11_butt.2.1 34 = .ok (.ifnonnull 14, 3) := by decide +kernel
theorem dX11_butt_37 : decode kX11_butt.2.1 37 = .ok (.bipush (-30), 2) := by decide +kernel
theorem dX11_butt_39 : decode kX11_butt.2.1 39 = .ok (.aload_n 0, 1) := by decide +kernel
theorem dX11_butt_40 : decode kX11_butt.2.1 40 = .ok (.getfield 20, 3) := by decide +kernel
theorem dX11_butt_43 : decode kX11_butt.2.1 43 = .ok (.getfield 106, 3) := by decide +kernel
theorem dX11_butt_46 : decode kX11_butt.2.1 46 = .ok (.isub, 1) := by decide +kernel
theorem dX11_butt_47 : decode kX11_butt.2.1 47 = .ok (.ireturn, 1) := by decide +kernel
theorem dX11_butt_48 : decode kX11_butt.2.1 48 = .ok (.aload_n 0, 1) := by decide +kernel
theorem dX11_butt_49 : decode kX11_butt.2.1 49 = .ok (.aload_n 2, 1) := by decide +kernel
theorem dX11_butt_50 : decode kX11_butt.2.1 50 = .ok (.putfield 27, 3) := by decide +kernel
theorem dX11_butt_53 : decode kX11_butt.2.1 53 = .ok (.aload_n 0, 1) := by decide +kernel
theorem dX11_butt_54 : decode kX11_butt.2.1 54 = .ok (.getfield 34, 3) := by decide +kernel
theorem dX11_butt_57 : decode kX11_butt.2.1 57 = .ok (.aload_n 2, 1) := by decide +kernel
theorem dX11_butt_58 : decode kX11_butt.2.1 58 = .ok (.getfield 109, 3) := by decide +kernel
theorem dX11_butt_61 : decode kX11_butt.2.1 61 = .ok (.invokevirtual 112, 3) := by decide +kernel
theorem dX11_butt_64 : decode kX11_butt.2.1 64 = .ok (.aload_n 0, 1) := by decide +kernel
theorem dX11_butt_65 : decode kX11_butt.2.1 65 = .ok (.getfield 44, 3) := by decide +kernel
theorem dX11_butt_68 : decode kX11_butt.2.1 68 = .ok (.invokevirtual 115, 3) := by decide +kernel
theorem dX11_butt_71 : decode kX11_butt.2.1 71 = .ok (.aload_n 2, 1) := by decide +kernel
theorem dX11_butt_72 : decode kX11_butt.2.1 72 = .ok (.getfield 118, 3) := by decide +kernel
theorem dX11_butt_75 : decode kX11_butt.2.1 75 = .ok (.ireturn, 1) := by decide +kernel
theorem dX11_fault_0 : decode kX11_fault.2.1 0 = .ok (.iload_n 1, 1) := by decide +kernel
theorem dX11_fault_1 : decode kX11_fault.2.1 1 = .ok (.ifCond .ne 11, 3) := by decide +kernel
theorem dX11_fault_4 : decode kX11_fault.2.1 4 = .ok (.aload_n 0, 1) := by decide +kernel
theorem dX11_fault_5 : decode kX11_fault.2.1 5 = .ok (.getfield 20, 3) := by decide +kernel
theorem dX11_fault_8 : decode kX11_fault.2.1 8 = .ok (.getfield 106, 3) := by decide +kernel
theorem dX11_fault_11 : decode kX11_fault.2.1 11 = .ok (.ireturn, 1) := by decide +kernel
theorem dX11_fault_12 : decode kX11_fault.2.1 12 = .ok (.iload_n 1, 1) := by decide +kernel
theorem dX11_fault_13 : decode kX11_fault.2.1 13 = .ok (.iconst 1, 1) := by decide +kernel
theorem dX11_fault_14 : decode kX11_fault.2.1 14 = .ok (.if_icmp .ne 13, 3) := by decide +kernel
theorem dX11_fault_17 : decode kX11_fault.2.1 17 = .ok (.aload_n 0, 1) := by decide +kernel
theorem dX11_fault_18 : decode kX11_fault.2.1 18 = .ok (.getfield 20, 3) := by decide +kernel
theorem dX11_fault_21 : decode kX11_fault.2.1 21 = .ok (.getfield 121, 3) := by decide +kernel
theorem dX11_fault_24 : decode kX11_fault.2.1 24 = .ok (.goto 4, 3) := by decide +kernel
theorem dX11_fault_27 : decode kX11_fault.2.1 27 = .ok (.iconst (-1), 1) := by decide +kernel
theorem dX11_fault_28 : decode kX11_fault.2.1 28 = .ok (.ireturn, 1) := by decide +kernel
theorem dX11_shooter_0 : decode kX11_shooter.2.1 0 = .ok (.aload_n 0, 1) := by decide +kernel
theorem dX11_shooter_1 : decode kX11_shooter.2.1 1 = .ok (.iload_n 1, 1) := by decide +kernel
theorem dX11_shooter_2 : decode kX11_shooter.2.1 2 = .ok (.invokevirtual 124, 3) := by decide +kernel
theorem dX11_shooter_5 : decode kX11_shooter.2.1 5 = .ok (.ifCond .eq 10, 3) := by decide +kernel
theorem dX11_shooter_8 : decode kX11_shooter.2.1 8 = .ok (.iload_n 2, 1) := by decide +kernel
theorem dX11_shooter_9 : decode kX11_shooter.2.1 9 = .ok (.invokestatic 128, 3) := by decide +kernel
theorem dX11_shooter_12 : decode kX11_shooter.2.1 12 = .ok (.ifCond .ne 6, 3) := by decide +kernel
theorem dX11_shooter_15 : decode kX11_shooter.2.1 15 = .ok (.bipush (-2), 2) := by decide +kernel
theorem dX11_shooter_17 : decode kX11_shooter.2.1 17 = .ok (.ireturn, 1) := by decide +kernel
theorem dX11_shooter_18 : decode kX11_shooter.2.1 18 = .ok (.iload_n 2, 1) := by decide +kernel
theorem dX11_shooter_19 : decode kX11_shooter.2.1 19 = .ok (.ifCond .ne 14, 3) := by decide +kernel
theorem dX11_shooter_22 : decode kX11_shooter.2.1 22 = .ok (.aload_n 0, 1) := by decide +kernel
theorem dX11_shooter_23 : decode kX11_shooter.2.1 23 = .ok (.getfield 27, 3) := by decide +kernel
theorem dX11_shooter_26 : decode kX11_shooter.2.1 26 = .ok (.iload_n 1, 1) := by decide +kernel
theorem dX11_shooter_27 : decode kX11_shooter.2.1 27 = .ok (.invokevirtual 131, 3) := by decide +kernel
theorem dX11_shooter_30 : decode kX11_shooter.2.1 30 = .ok (.goto 11, 3) := by decide +kernel
theorem dX11_shooter_33 : decode kX11_shooter.2.1 33 = .ok (.aload_n 0, 1) := by decide +kernel
theorem dX11_shooter_34 : decode kX11_shooter.2.1 34 = .ok (.getfield 34, 3) := by decide +kernel
theorem dX11_shooter_37 : decode kX11_shooter.2.1 37 = .ok (.iload_n 1, 1) := by decide +kernel
theorem dX11_shooter_38 : decode kX11_shooter.2.1 38 = .ok (.invokevirtual 135, 3) := by decide +kernel
theorem dX11_shooter_41 : decode kX11_shooter.2.1 41 = .ok (.ireturn, 1) := by decide +kernel
theorem dX11_points_0 : decode kX11_points.2.1 0 = .ok (.aload_n 0, 1) := by decide +kernel
theorem dX11_points_1 : decode kX11_points.2.1 1 = .ok (.iload_n 1, 1) := by decide +kernel
theorem dX11_points_2 : decode kX11_points.2.1 2 = .ok (.invokevirtual 124, 3) := by decide +kernel
theorem dX11_points_5 : decode kX11_points.2.1 5 = .ok (.ifCond .eq 14, 3) := by decide +kernel
theorem dX11_points_8 : decode kX11_points.2.1 8 = .ok (.aload_n 0, 1) := by decide +kernel
theorem dX11_points_9 : decode kX11_points.2.1 9 = .ok (.getfield 34, 3) := by decide +kernel
theorem dX11_points_12 : decode kX11_points.2.1 12 = .ok (.iload_n 1, 1) := by decide +kernel
theorem dX11_points_13 : decode kX11_points.2.1 13 = .ok (.invokevirtual 138, 3) := by decide +kernel
theorem dX11_points_16 : decode kX11_points.2.1 16 = .ok (.goto 5, 3) := by decide +kernel
theorem dX11_points_19 : decode kX11_points.2.1 19 = .ok (.ldc 141, 2) := by decide +kernel
theorem dX11_points_21 : decode kX11_points.2.1 21 = .ok (.ireturn, 1) := by decide +kernel
theorem dX11_lands_0 : decode kX11_lands.2.1 0 = .ok (.aload_n 0, 1) := by decide +kernel
theorem dX11_lands_1 : decode kX11_lands.2.1 1 = .ok (.iload_n 1, 1) := by decide +kernel
theorem dX11_lands_2 : decode kX11_lands.2.1 2 = .ok (.iload_n 2, 1) := by decide +kernel
theorem dX11_lands_3 : decode kX11_lands.2.1 3 = .ok (.iload_n 3, 1) := by decide +kernel
theorem dX11_lands_4 : decode kX11_lands.2.1 4 = .ok (.invokevirtual 142, 3) := by decide +kernel
theorem dX11_lands_7 : decode kX11_lands.2.1 7 = .ok (.ifCond .eq 13, 3) := by decide +kernel
theorem dX11_lands_10 : decode kX11_lands.2.1 10 = .ok (.aload_n 0, 1) := by decide +kernel
theorem dX11_lands_11 : decode kX11_lands.2.1 11 = .ok (.iload_n 1, 1) := by decide +kernel
theorem dX11_lands_12 : decode kX11_lands.2.1 12 = .ok (.iload_n 2, 1) := by decide +kernel
theorem dX11_lands_13 : decode kX11_lands.2.1 13 = .ok (.iload_n 3, 1) := by decide +kernel
theorem dX11_lands_14 : decode kX11_lands.2.1 14 = .ok (.invokevirtual 146, 3) := by decide +kernel
theorem dX11_lands_17 : decode kX11_lands.2.1 17 = .ok (.goto 5, 3) := by decide +kernel
theorem dX11_lands_20 : decode kX11_lands.2.1 20 = .ok (.bipush (-2), 2) := by decide +kernel
theorem dX11_lands_22 : decode kX11_lands.2.1 22 = .ok (.ireturn, 1) := by decide +kernel
theorem dX11_far_0 : decode kX11_far.2.1 0 = .ok (.iload_n 1, 1) := by decide +kernel
theorem dX11_far_1 : decode kX11_far.2.1 1 = .ok (.i2l, 1) := by decide +kernel
theorem dX11_far_2 : decode kX11_far.2.1 2 = .ok (.invokestatic 150, 3) := by decide +kernel
theorem dX11_far_5 : decode kX11_far.2.1 5 = .ok (.ifCond .eq 14, 3) := by decide +kernel
theorem dX11_far_8 : decode kX11_far.2.1 8 = .ok (.aload_n 0, 1) := by decide +kernel
theorem dX11_far_9 : decode kX11_far.2.1 9 = .ok (.getfield 27, 3) := by decide +kernel
theorem dX11_far_12 : decode kX11_far.2.1 12 = .ok (.iload_n 1, 1) := by decide +kernel
theorem dX11_far_13 : decode kX11_far.2.1 13 = .ok (.invokevirtual 154, 3) := by decide +kernel
theorem dX11_far_16 : decode kX11_far.2.1 16 = .ok (.goto 5, 3) := by decide +kernel
theorem dX11_far_19 : decode kX11_far.2.1 19 = .ok (.bipush (-2), 2) := by decide +kernel
theorem dX11_far_21 : decode kX11_far.2.1 21 = .ok (.ireturn, 1) := by decide +kernel
theorem dX11_scores_0 : decode kX11_scores.2.1 0 = .ok (.iload_n 1, 1) := by decide +kernel
theorem dX11_scores_1 : decode kX11_scores.2.1 1 = .ok (.i2l, 1) := by decide +kernel
theorem dX11_scores_2 : decode kX11_scores.2.1 2 = .ok (.invokestatic 150, 3) := by decide +kernel
theorem dX11_scores_5 : decode kX11_scores.2.1 5 = .ok (.ifCond .eq 18, 3) := by decide +kernel
theorem dX11_scores_8 : decode kX11_scores.2.1 8 = .ok (.aload_n 0, 1) := by decide +kernel
theorem dX11_scores_9 : decode kX11_scores.2.1 9 = .ok (.getfield 27, 3) := by decide +kernel
theorem dX11_scores_12 : decode kX11_scores.2.1 12 = .ok (.iload_n 1, 1) := by decide +kernel
theorem dX11_scores_13 : decode kX11_scores.2.1 13 = .ok (.aload_n 0, 1) := by decide +kernel
theorem dX11_scores_14 : decode kX11_scores.2.1 14 = .ok (.invokevirtual 157, 3) := by decide +kernel
theorem dX11_scores_17 : decode kX11_scores.2.1 17 = .ok (.invokevirtual 161, 3) := by decide +kernel
theorem dX11_scores_20 : decode kX11_scores.2.1 20 = .ok (.goto 5, 3) := by decide +kernel
theorem dX11_scores_23 : decode kX11_scores.2.1 23 = .ok (.ldc 141, 2) := by decide +kernel
theorem dX11_scores_25 : decode kX11_scores.2.1 25 = .ok (.ireturn, 1) := by decide +kernel
theorem dX11_open_0 : decode kX11_open.2.1 0 = .ok (.iload_n 1, 1) := by decide +kernel
theorem dX11_open_1 : decode kX11_open.2.1 1 = .ok (.ifCond .lt 9, 3) := by decide +kernel
theorem dX11_open_4 : decode kX11_open.2.1 4 = .ok (.iload_n 1, 1) := by decide +kernel
theorem dX11_open_5 : decode kX11_open.2.1 5 = .ok (.bipush 100, 2) := by decide +kernel
theorem dX11_open_7 : decode kX11_open.2.1 7 = .ok (.if_icmp .lt 6, 3) := by decide +kernel
theorem dX11_open_10 : decode kX11_open.2.1 10 = .ok (.bipush (-3), 2) := by decide +kernel
theorem dX11_open_12 : decode kX11_open.2.1 12 = .ok (.ireturn, 1) := by decide +kernel
theorem dX11_open_13 : decode kX11_open.2.1 13 = .ok (.aload_n 0, 1) := by decide +kernel
theorem dX11_open_14 : decode kX11_open.2.1 14 = .ok (.iload_n 1, 1) := by decide +kernel
theorem dX11_open_15 : decode kX11_open.2.1 15 = .ok (.invokevirtual 165, 3) := by decide +kernel
theorem dX11_open_18 : decode kX11_open.2.1 18 = .ok (.ifCond .eq 7, 3) := by decide +kernel
theorem dX11_open_21 : decode kX11_open.2.1 21 = .ok (.iconst 1, 1) := by decide +kernel
theorem dX11_open_22 : decode kX11_open.2.1 22 = .ok (.goto 4, 3) := by decide +kernel
theorem dX11_open_25 : decode kX11_open.2.1 25 = .ok (.iconst 0, 1) := by decide +kernel
theorem dX11_open_26 : decode kX11_open.2.1 26 = .ok (.ireturn, 1) := by decide +kernel
theorem dX11_opens_0 : decode kX11_opens.2.1 0 = .ok (.iload_n 1, 1) := by decide +kernel
theorem dX11_opens_1 : decode kX11_opens.2.1 1 = .ok (.invokestatic 128, 3) := by decide +kernel
theorem dX11_opens_4 : decode kX11_opens.2.1 4 = .ok (.ifCond .ne 6, 3) := by decide +kernel
theorem dX11_opens_7 : decode kX11_opens.2.1 7 = .ok (.bipush (-2), 2) := by decide +kernel
theorem dX11_opens_9 : decode kX11_opens.2.1 9 = .ok (.ireturn, 1) := by decide +kernel
theorem dX11_opens_10 : decode kX11_opens.2.1 10 = .ok (.iconst 0, 1) := by decide +kernel
theorem dX11_opens_11 : decode kX11_opens.2.1 11 = .ok (.istore_n 2, 1) := by decide +kernel
theorem dX11_opens_12 : decode kX11_opens.2.1 12 = .ok (.iload_n 2, 1) := by decide +kernel
theorem dX11_opens_13 : decode kX11_opens.2.1 13 = .ok (.bipush 100, 2) := by decide +kernel
theorem dX11_opens_15 : decode kX11_opens.2.1 15 = .ok (.if_icmp .ge 29, 3) := by decide +kernel
theorem dX11_opens_18 : decode kX11_opens.2.1 18 = .ok (.aload_n 0, 1) := by decide +kernel
theorem dX11_opens_19 : decode kX11_opens.2.1 19 = .ok (.iload_n 2, 1) := by decide +kernel
theorem dX11_opens_20 : decode kX11_opens.2.1 20 = .ok (.invokevirtual 165, 3) := by decide +kernel
theorem dX11_opens_23 : decode kX11_opens.2.1 23 = .ok (.iload_n 1, 1) := by decide +kernel
theorem dX11_opens_24 : decode kX11_opens.2.1 24 = .ok (.iconst 1, 1) := by decide +kernel
theorem dX11_opens_25 : decode kX11_opens.2.1 25 = .ok (.if_icmp .ne 7, 3) := by decide +kernel
theorem dX11_opens_28 : decode kX11_opens.2.1 28 = .ok (.iconst 1, 1) := by decide +kernel
theorem dX11_opens_29 : decode kX11_opens.2.1 29 = .ok (.goto 4, 3) := by decide +kernel
theorem dX11_opens_32 : decode kX11_opens.2.1 32 = .ok (.iconst 0, 1) := by decide +kernel
theorem dX11_opens_33 : decode kX11_opens.2.1 33 = .ok (.if_icmp .ne 5, 3) := by decide +kernel
theorem dX11_opens_36 : decode kX11_opens.2.1 36 = .ok (.iload_n 2, 1) := by decide +kernel
theorem dX11_opens_37 : decode kX11_opens.2.1 37 = .ok (.ireturn, 1) := by decide +kernel
theorem dX11_opens_38 : decode kX11_opens.2.1 38 = .ok (.iinc 2 1, 3) := by decide +kernel
theorem dX11_opens_41 : decode kX11_opens.2.1 41 = .ok (.goto (-29), 3) := by decide +kernel
theorem dX11_opens_44 : decode kX11_opens.2.1 44 = .ok (.iconst (-1), 1) := by decide +kernel
theorem dX11_opens_45 : decode kX11_opens.2.1 45 = .ok (.ireturn, 1) := by decide +kernel
theorem dX11_shoot_0 : decode kX11_shoot.2.1 0 = .ok (.aload_n 0, 1) := by decide +kernel
theorem dX11_shoot_1 : decode kX11_shoot.2.1 1 = .ok (.iload_n 1, 1) := by decide +kernel
theorem dX11_shoot_2 : decode kX11_shoot.2.1 2 = .ok (.iload_n 2, 1) := by decide +kernel
theorem dX11_shoot_3 : decode kX11_shoot.2.1 3 = .ok (.iload_n 3, 1) := by decide +kernel
theorem dX11_shoot_4 : decode kX11_shoot.2.1 4 = .ok (.invokevirtual 142, 3) := by decide +kernel
theorem dX11_shoot_7 : decode kX11_shoot.2.1 7 = .ok (.ifCond .ne 6, 3) := by decide +kernel
theorem dX11_shoot_10 : decode kX11_shoot.2.1 10 = .ok (.ldc 168, 2) := by decide +kernel
theorem dX11_shoot_12 : decode kX11_shoot.2.1 12 = .ok (.ireturn, 1) := by decide +kernel
theorem dX11_shoot_13 : decode kX11_shoot.2.1 13 = .ok (.aload_n 0, 1) := by decide +kernel
theorem dX11_shoot_14 : decode kX11_shoot.2.1 14 = .ok (.getfield 44, 3) := by decide +kernel
theorem dX11_shoot_17 : decode kX11_shoot.2.1 17 = .ok (.aload_n 0, 1) := by decide +kernel
theorem dX11_shoot_18 : decode kX11_shoot.2.1 18 = .ok (.getfield 34, 3) := by decide +kernel
theorem dX11_shoot_21 : decode kX11_shoot.2.1 21 = .ok (.invokevirtual 169, 3) := by decide +kernel
theorem dX11_shoot_24 : decode kX11_shoot.2.1 24 = .ok (.aload_n 0, 1) := by decide +kernel
theorem dX11_shoot_25 : decode kX11_shoot.2.1 25 = .ok (.aload_n 0, 1) := by decide +kernel
theorem dX11_shoot_26 : decode kX11_shoot.2.1 26 = .ok (.getfield 34, 3) := by decide +kernel
theorem dX11_shoot_29 : decode kX11_shoot.2.1 29 = .ok (.iload_n 1, 1) := by decide +kernel
theorem dX11_shoot_30 : decode kX11_shoot.2.1 30 = .ok (.iload_n 2, 1) := by decide +kernel
theorem dX11_shoot_31 : decode kX11_shoot.2.1 31 = .ok (.iload_n 3, 1) := by decide +kernel
theorem dX11_shoot_32 : decode kX11_shoot.2.1 32 = .ok (.invokevirtual 173, 3) := by decide +kernel
theorem dX11_shoot_35 : decode kX11_shoot.2.1 35 = .ok (.ireturn, 1) := by decide +kernel
theorem dX11_waits_0 : decode kX11_waits.2.1 0 = .ok (.iload_n 1, 1) := by decide +kernel
theorem dX11_waits_1 : decode kX11_waits.2.1 1 = .ok (.iconst 1, 1) := by decide +kernel
theorem dX11_waits_2 : decode kX11_waits.2.1 2 = .ok (.if_icmp .lt 9, 3) := by decide +kernel
theorem dX11_waits_5 : decode kX11_waits.2.1 5 = .ok (.iload_n 1, 1) := by decide +kernel
theorem dX11_waits_6 : decode kX11_waits.2.1 6 = .ok (.bipush 100, 2) := by decide +kernel
theorem dX11_waits_8 : decode kX11_waits.2.1 8 = .ok (.if_icmp .lt 6, 3) := by decide +kernel
theorem dX11_waits_11 : decode kX11_waits.2.1 11 = .ok (.bipush (-3), 2) := by decide +kernel
theorem dX11_waits_13 : decode kX11_waits.2.1 13 = .ok (.ireturn, 1) := by decide +kernel
theorem dX11_waits_14 : decode kX11_waits.2.1 14 = .ok (.aload_n 0, 1) := by decide +kernel
theorem dX11_waits_15 : decode kX11_waits.2.1 15 = .ok (.getfield 44, 3) := by decide +kernel
theorem dX11_waits_18 : decode kX11_waits.2.1 18 = .ok (.aload_n 0, 1) := by decide +kernel
theorem dX11_waits_19 : decode kX11_waits.2.1 19 = .ok (.getfield 34, 3) := by decide +kernel
theorem dX11_waits_22 : decode kX11_waits.2.1 22 = .ok (.invokevirtual 169, 3) := by decide +kernel
theorem dX11_waits_25 : decode kX11_waits.2.1 25 = .ok (.aload_n 0, 1) := by decide +kernel
theorem dX11_waits_26 : decode kX11_waits.2.1 26 = .ok (.getfield 34, 3) := by decide +kernel
theorem dX11_waits_29 : decode kX11_waits.2.1 29 = .ok (.dup, 1) := by decide +kernel
theorem dX11_waits_30 : decode kX11_waits.2.1 30 = .ok (.getfield 177, 3) := by decide +kernel
theorem dX11_waits_33 : decode kX11_waits.2.1 33 = .ok (.iload_n 1, 1) := by decide +kernel
theorem dX11_waits_34 : decode kX11_waits.2.1 34 = .ok (.iadd, 1) := by decide +kernel
theorem dX11_waits_35 : decode kX11_waits.2.1 35 = .ok (.putfield 177, 3) := by decide +kernel
theorem dX11_waits_38 : decode kX11_waits.2.1 38 = .ok (.aload_n 0, 1) := by decide +kernel
theorem dX11_waits_39 : decode kX11_waits.2.1 39 = .ok (.getfield 34, 3) := by decide +kernel
theorem dX11_waits_42 : decode kX11_waits.2.1 42 = .ok (.getfield 177, 3) := by decide +kernel
theorem dX11_waits_45 : decode kX11_waits.2.1 45 = .ok (.ireturn, 1) := by decide +kernel
theorem dX11_heal_0 : decode kX11_heal.2.1 0 = .ok (.aload_n 0, 1) := by decide +kernel
theorem dX11_heal_1 : decode kX11_heal.2.1 1 = .ok (.getfield 44, 3) := by decide +kernel
theorem dX11_heal_4 : decode kX11_heal.2.1 4 = .ok (.aload_n 0, 1) := by decide +kernel
theorem dX11_heal_5 : decode kX11_heal.2.1 5 = .ok (.getfield 34, 3) := by decide +kernel
theorem dX11_heal_8 : decode kX11_heal.2.1 8 = .ok (.invokevirtual 169, 3) := by decide +kernel
theorem dX11_heal_11 : decode kX11_heal.2.1 11 = .ok (.aload_n 0, 1) := by decide +kernel
theorem dX11_heal_12 : decode kX11_heal.2.1 12 = .ok (.getfield 34, 3) := by decide +kernel
theorem dX11_heal_15 : decode kX11_heal.2.1 15 = .ok (.getfield 180, 3) := by decide +kernel
theorem dX11_heal_18 : decode kX11_heal.2.1 18 = .ok (.istore_n 1, 1) := by decide +kernel
theorem dX11_heal_19 : decode kX11_heal.2.1 19 = .ok (.aload_n 0, 1) := by decide +kernel
theorem dX11_heal_20 : decode kX11_heal.2.1 20 = .ok (.getfield 34, 3) := by decide +kernel
theorem dX11_heal_23 : decode kX11_heal.2.1 23 = .ok (.iconst 0, 1) := by decide +kernel
theorem dX11_heal_24 : decode kX11_heal.2.1 24 = .ok (.putfield 180, 3) := by decide +kernel
theorem dX11_heal_27 : decode kX11_heal.2.1 27 = .ok (.iload_n 1, 1) := by decide +kernel
theorem dX11_heal_28 : decode kX11_heal.2.1 28 = .ok (.ireturn, 1) := by decide +kernel
theorem dX11_wind_0 : decode kX11_wind.2.1 0 = .ok (.iload_n 1, 1) := by decide +kernel
theorem dX11_wind_1 : decode kX11_wind.2.1 1 = .ok (.invokestatic 183, 3) := by decide +kernel
theorem dX11_wind_4 : decode kX11_wind.2.1 4 = .ok (.ifCond .ne 6, 3) := by decide +kernel
theorem dX11_wind_7 : decode kX11_wind.2.1 7 = .ok (.bipush (-11), 2) := by decide +kernel
theorem dX11_wind_9 : decode kX11_wind.2.1 9 = .ok (.ireturn, 1) := by decide +kernel
theorem dX11_wind_10 : decode kX11_wind.2.1 10 = .ok (.aload_n 0, 1) := by decide +kernel
theorem dX11_wind_11 : decode kX11_wind.2.1 11 = .ok (.getfield 44, 3) := by decide +kernel
theorem dX11_wind_14 : decode kX11_wind.2.1 14 = .ok (.aload_n 0, 1) := by decide +kernel
theorem dX11_wind_15 : decode kX11_wind.2.1 15 = .ok (.getfield 34, 3) := by decide +kernel
theorem dX11_wind_18 : decode kX11_wind.2.1 18 = .ok (.invokevirtual 169, 3) := by decide +kernel
theorem dX11_wind_21 : decode kX11_wind.2.1 21 = .ok (.aload_n 0, 1) := by decide +kernel
theorem dX11_wind_22 : decode kX11_wind.2.1 22 = .ok (.getfield 34, 3) := by decide +kernel
theorem dX11_wind_25 : decode kX11_wind.2.1 25 = .ok (.getfield 186, 3) := by decide +kernel
theorem dX11_wind_28 : decode kX11_wind.2.1 28 = .ok (.istore_n 2, 1) := by decide +kernel
theorem dX11_wind_29 : decode kX11_wind.2.1 29 = .ok (.aload_n 0, 1) := by decide +kernel
theorem dX11_wind_30 : decode kX11_wind.2.1 30 = .ok (.getfield 34, 3) := by decide +kernel
theorem dX11_wind_33 : decode kX11_wind.2.1 33 = .ok (.iload_n 1, 1) := by decide +kernel
theorem dX11_wind_34 : decode kX11_wind.2.1 34 = .ok (.putfield 186, 3) := by decide +kernel
theorem dX11_wind_37 : decode kX11_wind.2.1 37 = .ok (.iload_n 2, 1) := by decide +kernel
theorem dX11_wind_38 : decode kX11_wind.2.1 38 = .ok (.ireturn, 1) := by decide +kernel
theorem dX11_undo_0 : decode kX11_undo.2.1 0 = .ok (.iload_n 1, 1) := by decide +kernel
theorem dX11_undo_1 : decode kX11_undo.2.1 1 = .ok (.iconst 1, 1) := by decide +kernel
theorem dX11_undo_2 : decode kX11_undo.2.1 2 = .ok (.if_icmp .lt 14, 3) := by decide +kernel
theorem dX11_undo_5 : decode kX11_undo.2.1 5 = .ok (.iload_n 1, 1) := by decide +kernel
theorem dX11_undo_6 : decode kX11_undo.2.1 6 = .ok (.aload_n 0, 1) := by decide +kernel
theorem dX11_undo_7 : decode kX11_undo.2.1 7 = .ok (.getfield 44, 3) := by decide +kernel
theorem dX11_undo_10 : decode kX11_undo.2.1 10 = .ok (.getfield 187, 3) := by decide +kernel
theorem dX11_undo_13 : decode kX11_undo.2.1 13 = .ok (.if_icmp .le 6, 3) := by decide +kernel
theorem dX11_undo_16 : decode kX11_undo.2.1 16 = .ok (.bipush (-3), 2) := by decide +kernel
theorem dX11_undo_18 : decode kX11_undo.2.1 18 = .ok (.ireturn, 1) := by decide +kernel
theorem dX11_undo_19 : decode kX11_undo.2.1 19 = .ok (.aload_n 0, 1) := by decide +kernel
theorem dX11_undo_20 : decode kX11_undo.2.1 20 = .ok (.getfield 44, 3) := by decide +kernel
theorem dX11_undo_23 : decode kX11_undo.2.1 23 = .ok (.iload_n 1, 1) := by decide +kernel
theorem dX11_undo_24 : decode kX11_undo.2.1 24 = .ok (.aload_n 0, 1) := by decide +kernel
theorem dX11_undo_25 : decode kX11_undo.2.1 25 = .ok (.getfield 34, 3) := by decide +kernel
theorem dX11_undo_28 : decode kX11_undo.2.1 28 = .ok (.invokevirtual 190, 3) := by decide +kernel
theorem dX11_undo_31 : decode kX11_undo.2.1 31 = .ok (.aload_n 0, 1) := by decide +kernel
theorem dX11_undo_32 : decode kX11_undo.2.1 32 = .ok (.getfield 44, 3) := by decide +kernel
theorem dX11_undo_35 : decode kX11_undo.2.1 35 = .ok (.getfield 187, 3) := by decide +kernel
theorem dX11_undo_38 : decode kX11_undo.2.1 38 = .ok (.ireturn, 1) := by decide +kernel
theorem dX11_judge_0 : decode kX11_judge.2.1 0 = .ok (.aload_n 0, 1) := by decide +kernel
theorem dX11_judge_1 : decode kX11_judge.2.1 1 = .ok (.iload_n 1, 1) := by decide +kernel
theorem dX11_judge_2 : decode kX11_judge.2.1 2 = .ok (.invokevirtual 194, 3) := by decide +kernel
theorem dX11_judge_5 : decode kX11_judge.2.1 5 = .ok (.ifCond .eq 12, 3) := by decide +kernel
theorem dX11_judge_8 : decode kX11_judge.2.1 8 = .ok (.iload_n 2, 1) := by decide +kernel
theorem dX11_judge_9 : decode kX11_judge.2.1 9 = .ok (.ifCond .lt 8, 3) := by decide +kernel
theorem dX11_judge_12 : decode kX11_judge.2.1 12 = .ok (.iload_n 2, 1) := by decide +kernel
theorem dX11_judge_13 : decode kX11_judge.2.1 13 = .ok (.iconst 3, 1) := by decide +kernel
theorem dX11_judge_14 : decode kX11_judge.2.1 14 = .ok (.if_icmp .le 6, 3) := by decide +kernel
theorem dX11_judge_17 : decode kX11_judge.2.1 17 = .ok (.bipush (-2), 2) := by decide +kernel
theorem dX11_judge_19 : decode kX11_judge.2.1 19 = .ok (.ireturn, 1) := by decide +kernel
theorem dX11_judge_20 : decode kX11_judge.2.1 20 = .ok (.aload_n 0, 1) := by decide +kernel
theorem dX11_judge_21 : decode kX11_judge.2.1 21 = .ok (.getfield 50, 3) := by decide +kernel
theorem dX11_judge_24 : decode kX11_judge.2.1 24 = .ok (.iload_n 1, 1) := by decide +kernel
theorem dX11_judge_25 : decode kX11_judge.2.1 25 = .ok (.aaload, 1) := by decide +kernel
theorem dX11_judge_26 : decode kX11_judge.2.1 26 = .ok (.astore_n 3, 1) := by decide +kernel
theorem dX11_judge_27 : decode kX11_judge.2.1 27 = .ok (.aload_n 3, 1) := by decide +kernel
theorem dX11_judge_28 : decode kX11_judge.2.1 28 = .ok (.getfield 197, 3) := by decide +kernel
theorem dX11_judge_31 : decode kX11_judge.2.1 31 = .ok (.ifCond .ne 6, 3) := by decide +kernel
theorem dX11_judge_34 : decode kX11_judge.2.1 34 = .ok (.bipush (-6), 2) := by decide +kernel
theorem dX11_judge_36 : decode kX11_judge.2.1 36 = .ok (.ireturn, 1) := by decide +kernel
theorem dX11_judge_37 : decode kX11_judge.2.1 37 = .ok (.aload_n 0, 1) := by decide +kernel
theorem dX11_judge_38 : decode kX11_judge.2.1 38 = .ok (.getfield 38, 3) := by decide +kernel
theorem dX11_judge_41 : decode kX11_judge.2.1 41 = .ok (.aload_n 0, 1) := by decide +kernel
theorem dX11_judge_42 : decode kX11_judge.2.1 42 = .ok (.getfield 34, 3) := by decide +kernel
theorem dX11_judge_45 : decode kX11_judge.2.1 45 = .ok (.invokevirtual 201, 3) := by decide +kernel
theorem dX11_judge_48 : decode kX11_judge.2.1 48 = .ok (.aload_n 0, 1) := by decide +kernel
theorem dX11_judge_49 : decode kX11_judge.2.1 49 = .ok (.aload_n 0, 1) := by decide +kernel
theorem dX11_judge_50 : decode kX11_judge.2.1 50 = .ok (.getfield 38, 3) := by decide +kernel
theorem dX11_judge_53 : decode kX11_judge.2.1 53 = .ok (.aload_n 3, 1) := by decide +kernel
theorem dX11_judge_54 : decode kX11_judge.2.1 54 = .ok (.invokevirtual 204, 3) := by decide +kernel
theorem dX11_judge_57 : decode kX11_judge.2.1 57 = .ok (.istore 4, 2) := by decide +kernel
theorem dX11_judge_59 : decode kX11_judge.2.1 59 = .ok (.iload 4, 2) := by decide +kernel
theorem dX11_judge_61 : decode kX11_judge.2.1 61 = .ok (.aload_n 3, 1) := by decide +kernel
theorem dX11_judge_62 : decode kX11_judge.2.1 62 = .ok (.getfield 208, 3) := by decide +kernel
theorem dX11_judge_65 : decode kX11_judge.2.1 65 = .ok (.if_icmp .ne 7, 3) := by decide +kernel
theorem dX11_judge_68 : decode kX11_judge.2.1 68 = .ok (.iconst 1, 1) := by decide +kernel
theorem dX11_judge_69 : decode kX11_judge.2.1 69 = .ok (.goto 4, 3) := by decide +kernel
theorem dX11_judge_72 : decode kX11_judge.2.1 72 = .ok (.iconst 0, 1) := by decide +kernel
theorem dX11_judge_73 : decode kX11_judge.2.1 73 = .ok (.istore 5, 2) := by decide +kernel
theorem dX11_judge_75 : decode kX11_judge.2.1 75 = .ok (.iload_n 2, 1) := by decide +kernel
theorem dX11_judge_76 : decode kX11_judge.2.1 76 = .ok (.tableswitch 59 0 2 #[28, 40, 51], 28) := by decide +kernel
theorem dX11_judge_104 : decode kX11_judge.2.1 104 = .ok (.iload 5, 2) := by decide +kernel
theorem dX11_judge_106 : decode kX11_judge.2.1 106 = .ok (.ifCond .eq 7, 3) := by decide +kernel
theorem dX11_judge_109 : decode kX11_judge.2.1 109 = .ok (.iconst (-1), 1) := by decide +kernel
theorem dX11_judge_110 : decode kX11_judge.2.1 110 = .ok (.goto 5, 3) := by decide +kernel
theorem dX11_judge_113 : decode kX11_judge.2.1 113 = .ok (.iload 4, 2) := by decide +kernel
theorem dX11_judge_115 : decode kX11_judge.2.1 115 = .ok (.ireturn, 1) := by decide +kernel
theorem dX11_judge_116 : decode kX11_judge.2.1 116 = .ok (.iload 5, 2) := by decide +kernel
theorem dX11_judge_118 : decode kX11_judge.2.1 118 = .ok (.ifCond .eq 7, 3) := by decide +kernel
theorem dX11_judge_121 : decode kX11_judge.2.1 121 = .ok (.iconst 0, 1) := by decide +kernel
theorem dX11_judge_122 : decode kX11_judge.2.1 122 = .ok (.goto 4, 3) := by decide +kernel
theorem dX11_judge_125 : decode kX11_judge.2.1 125 = .ok (.iconst 1, 1) := by decide +kernel
theorem dX11_judge_126 : decode kX11_judge.2.1 126 = .ok (.ireturn, 1) := by decide +kernel
theorem dX11_judge_127 : decode kX11_judge.2.1 127 = .ok (.aload_n 0, 1) := by decide +kernel
theorem dX11_judge_128 : decode kX11_judge.2.1 128 = .ok (.getfield 38, 3) := by decide +kernel
theorem dX11_judge_131 : decode kX11_judge.2.1 131 = .ok (.getfield 177, 3) := by decide +kernel
theorem dX11_judge_134 : decode kX11_judge.2.1 134 = .ok (.ireturn, 1) := by decide +kernel
theorem dX11_judge_135 : decode kX11_judge.2.1 135 = .ok (.aload_n 0, 1) := by decide +kernel
theorem dX11_judge_136 : decode kX11_judge.2.1 136 = .ok (.getfield 38, 3) := by decide +kernel
theorem dX11_judge_139 : decode kX11_judge.2.1 139 = .ok (.getfield 180, 3) := by decide +kernel
theorem dX11_judge_142 : decode kX11_judge.2.1 142 = .ok (.ireturn, 1) := by decide +kernel
theorem dX11_perform_0 : decode kX11_perform.2.1 0 = .ok (.aload_n 0, 1) := by decide +kernel
theorem dX11_perform_1 : decode kX11_perform.2.1 1 = .ok (.iload_n 1, 1) := by decide +kernel
theorem dX11_perform_2 : decode kX11_perform.2.1 2 = .ok (.invokevirtual 194, 3) := by decide +kernel
theorem dX11_perform_5 : decode kX11_perform.2.1 5 = .ok (.ifCond .ne 6, 3) := by decide +kernel
theorem dX11_perform_8 : decode kX11_perform.2.1 8 = .ok (.bipush (-2), 2) := by decide +kernel
theorem dX11_perform_10 : decode kX11_perform.2.1 10 = .ok (.ireturn, 1) := by decide +kernel
theorem dX11_perform_11 : decode kX11_perform.2.1 11 = .ok (.aload_n 0, 1) := by decide +kernel
theorem dX11_perform_12 : decode kX11_perform.2.1 12 = .ok (.getfield 50, 3) := by decide +kernel
theorem dX11_perform_15 : decode kX11_perform.2.1 15 = .ok (.iload_n 1, 1) := by decide +kernel
theorem dX11_perform_16 : decode kX11_perform.2.1 16 = .ok (.aaload, 1) := by decide +kernel
theorem dX11_perform_17 : decode kX11_perform.2.1 17 = .ok (.getfield 197, 3) := by decide +kernel
theorem dX11_perform_20 : decode kX11_perform.2.1 20 = .ok (.ifCond .ne 6, 3) := by decide +kernel
theorem dX11_perform_23 : decode kX11_perform.2.1 23 = .ok (.bipush (-6), 2) := by decide +kernel
theorem dX11_perform_25 : decode kX11_perform.2.1 25 = .ok (.ireturn, 1) := by decide +kernel
theorem dX11_perform_26 : decode kX11_perform.2.1 26 = .ok (.aload_n 0, 1) := by decide +kernel
theorem dX11_perform_27 : decode kX11_perform.2.1 27 = .ok (.getfield 38, 3) := by decide +kernel
theorem dX11_perform_30 : decode kX11_perform.2.1 30 = .ok (.aload_n 0, 1) := by decide +kernel
theorem dX11_perform_31 : decode kX11_perform.2.1 31 = .ok (.getfield 34, 3) := by decide +kernel
theorem dX11_perform_34 : decode kX11_perform.2.1 34 = .ok (.invokevirtual 201, 3) := by decide +kernel
theorem dX11_perform_37 : decode kX11_perform.2.1 37 = .ok (.aload_n 0, 1) := by decide +kernel
theorem dX11_perform_38 : decode kX11_perform.2.1 38 = .ok (.aload_n 0, 1) := by decide +kernel
theorem dX11_perform_39 : decode kX11_perform.2.1 39 = .ok (.getfield 34, 3) := by decide +kernel
theorem dX11_perform_42 : decode kX11_perform.2.1 42 = .ok (.aload_n 0, 1) := by decide +kernel
theorem dX11_perform_43 : decode kX11_perform.2.1 43 = .ok (.getfield 50, 3) := by decide +kernel
theorem dX11_perform_46 : decode kX11_perform.2.1 46 = .ok (.iload_n 1, 1) := by decide +kernel
theorem dX11_perform_47 : decode kX11_perform.2.1 47 = .ok (.aaload, 1) := by decide +kernel
theorem dX11_perform_48 : decode kX11_perform.2.1 48 = .ok (.invokevirtual 204, 3) := by decide +kernel
theorem dX11_perform_51 : decode kX11_perform.2.1 51 = .ok (.istore_n 2, 1) := by decide +kernel
theorem dX11_perform_52 : decode kX11_perform.2.1 52 = .ok (.iload_n 2, 1) := by decide +kernel
theorem dX11_perform_53 : decode kX11_perform.2.1 53 = .ok (.ifCond .le 14, 3) := by decide +kernel
theorem dX11_perform_56 : decode kX11_perform.2.1 56 = .ok (.aload_n 0, 1) := by decide +kernel
theorem dX11_perform_57 : decode kX11_perform.2.1 57 = .ok (.getfield 44, 3) := by decide +kernel
theorem dX11_perform_60 : decode kX11_perform.2.1 60 = .ok (.aload_n 0, 1) := by decide +kernel
theorem dX11_perform_61 : decode kX11_perform.2.1 61 = .ok (.getfield 38, 3) := by decide +kernel
theorem dX11_perform_64 : decode kX11_perform.2.1 64 = .ok (.invokevirtual 169, 3) := by decide +kernel
theorem dX11_perform_67 : decode kX11_perform.2.1 67 = .ok (.iload_n 2, 1) := by decide +kernel
theorem dX11_perform_68 : decode kX11_perform.2.1 68 = .ok (.ireturn, 1) := by decide +kernel
theorem dX11_day_0 : decode kX11_day.2.1 0 = .ok (.iload_n 2, 1) := by decide +kernel
theorem dX11_day_1 : decode kX11_day.2.1 1 = .ok (.iconst 1, 1) := by decide +kernel
theorem dX11_day_2 : decode kX11_day.2.1 2 = .ok (.if_icmp .lt 9, 3) := by decide +kernel
theorem dX11_day_5 : decode kX11_day.2.1 5 = .ok (.iload_n 2, 1) := by decide +kernel
theorem dX11_day_6 : decode kX11_day.2.1 6 = .ok (.bipush 40, 2) := by decide +kernel
theorem dX11_day_8 : decode kX11_day.2.1 8 = .ok (.if_icmp .le 6, 3) := by decide +kernel
theorem dX11_day_11 : decode kX11_day.2.1 11 = .ok (.bipush (-3), 2) := by decide +kernel
theorem dX11_day_13 : decode kX11_day.2.1 13 = .ok (.ireturn, 1) := by decide +kernel
theorem dX11_day_14 : decode kX11_day.2.1 14 = .ok (.aload_n 0, 1) := by decide +kernel
theorem dX11_day_15 : decode kX11_day.2.1 15 = .ok (.getfield 38, 3) := by decide +kernel
theorem dX11_day_18 : decode kX11_day.2.1 18 = .ok (.aload_n 0, 1) := by decide +kernel
theorem dX11_day_19 : decode kX11_day.2.1 19 = .ok (.getfield 34, 3) := by decide +kernel
theorem dX11_day_22 : decode kX11_day.2.1 22 = .ok (.invokevirtual 201, 3) := by decide +kernel
theorem dX11_day_25 : decode kX11_day.2.1 25 = .ok (.aload_n 0, 1) := by decide +kernel
theorem dX11_day_26 : decode kX11_day.2.1 26 = .ok (.iload_n 1, 1) := by decide +kernel
theorem dX11_day_27 : decode kX11_day.2.1 27 = .ok (.putfield 93, 3) := by decide +kernel
theorem dX11_day_30 : decode kX11_day.2.1 30 = .ok (.iconst 0, 1) := by decide +kernel
theorem dX11_day_31 : decode kX11_day.2.1 31 = .ok (.istore_n 3, 1) := by decide +kernel
theorem dX11_day_32 : decode kX11_day.2.1 32 = .ok (.iconst 0, 1) := by decide +kernel
theorem dX11_day_33 : decode kX11_day.2.1 33 = .ok (.istore 4, 2) := by decide +kernel
theorem dX11_day_35 : decode kX11_day.2.1 35 = .ok (.iload 4, 2) := by decide +kernel
theorem dX11_day_37 : decode kX11_day.2.1 37 = .ok (.iload_n 2, 1) := by decide +kernel
theorem dX11_day_38 : decode kX11_day.2.1 38 = .ok (.if_icmp .ge 28, 3) := by decide +kernel
theorem dX11_day_41 : decode kX11_day.2.1 41 = .ok (.aload_n 0, 1) := by decide +kernel
theorem dX11_day_42 : decode kX11_day.2.1 42 = .ok (.aload_n 0, 1) := by decide +kernel
theorem dX11_day_43 : decode kX11_day.2.1 43 = .ok (.getfield 34, 3) := by decide +kernel
theorem dX11_day_46 : decode kX11_day.2.1 46 = .ok (.aload_n 0, 1) := by decide +kernel
theorem dX11_day_47 : decode kX11_day.2.1 47 = .ok (.invokevirtual 209, 3) := by decide +kernel
theorem dX11_day_50 : decode kX11_day.2.1 50 = .ok (.i2l, 1) := by decide +kernel
theorem dX11_day_51 : decode kX11_day.2.1 51 = .ok (.invokevirtual 213, 3) := by decide +kernel
theorem dX11_day_54 : decode kX11_day.2.1 54 = .ok (.ifCond .eq 6, 3) := by decide +kernel
theorem dX11_day_57 : decode kX11_day.2.1 57 = .ok (.iinc 3 1, 3) := by decide +kernel
theorem dX11_day_60 : decode kX11_day.2.1 60 = .ok (.iinc 4 1, 3) := by decide +kernel
theorem dX11_day_63 : decode kX11_day.2.1 63 = .ok (.goto (-28), 3) := by decide +kernel
theorem dX11_day_66 : decode kX11_day.2.1 66 = .ok (.iload_n 3, 1) := by decide +kernel
theorem dX11_day_67 : decode kX11_day.2.1 67 = .ok (.ifCond .le 14, 3) := by decide +kernel
theorem dX11_day_70 : decode kX11_day.2.1 70 = .ok (.aload_n 0, 1) := by decide +kernel
theorem dX11_day_71 : decode kX11_day.2.1 71 = .ok (.getfield 44, 3) := by decide +kernel
theorem dX11_day_74 : decode kX11_day.2.1 74 = .ok (.aload_n 0, 1) := by decide +kernel
theorem dX11_day_75 : decode kX11_day.2.1 75 = .ok (.getfield 38, 3) := by decide +kernel
theorem dX11_day_78 : decode kX11_day.2.1 78 = .ok (.invokevirtual 169, 3) := by decide +kernel
theorem dX11_day_81 : decode kX11_day.2.1 81 = .ok (.iload_n 3, 1) := by decide +kernel
theorem dX11_day_82 : decode kX11_day.2.1 82 = .ok (.ireturn, 1) := by decide +kernel
theorem dX11_leads_0 : decode kX11_leads.2.1 0 = .ok (.iconst (-1), 1) := by decide +kernel
theorem dX11_leads_1 : decode kX11_leads.2.1 1 = .ok (.istore_n 1, 1) := by decide +kernel
theorem dX11_leads_2 : decode kX11_leads.2.1 2 = .ok (.iconst 0, 1) := by decide +kernel
theorem dX11_leads_3 : decode kX11_leads.2.1 3 = .ok (.istore_n 2, 1) := by decide +kernel
theorem dX11_leads_4 : decode kX11_leads.2.1 4 = .ok (.iconst 0, 1) := by decide +kernel
theorem dX11_leads_5 : decode kX11_leads.2.1 5 = .ok (.istore_n 3, 1) := by decide +kernel
theorem dX11_leads_6 : decode kX11_leads.2.1 6 = .ok (.iload_n 3, 1) := by decide +kernel
theorem dX11_leads_7 : decode kX11_leads.2.1 7 = .ok (.aload_n 0, 1) := by decide +kernel
theorem dX11_leads_8 : decode kX11_leads.2.1 8 = .ok (.getfield 27, 3) := by decide +kernel
theorem dX11_leads_11 : decode kX11_leads.2.1 11 = .ok (.getfield 217, 3) := by decide +kernel
theorem dX11_leads_14 : decode kX11_leads.2.1 14 = .ok (.if_icmp .ge 37, 3) := by decide +kernel
theorem dX11_leads_17 : decode kX11_leads.2.1 17 = .ok (.iload_n 1, 1) := by decide +kernel
theorem dX11_leads_18 : decode kX11_leads.2.1 18 = .ok (.iconst (-1), 1) := by decide +kernel
theorem dX11_leads_19 : decode kX11_leads.2.1 19 = .ok (.if_icmp .eq 15, 3) := by decide +kernel
theorem dX11_leads_22 : decode kX11_leads.2.1 22 = .ok (.aload_n 0, 1) := by decide +kernel
theorem dX11_leads_23 : decode kX11_leads.2.1 23 = .ok (.getfield 34, 3) := by decide +kernel
theorem dX11_leads_26 : decode kX11_leads.2.1 26 = .ok (.iload_n 3, 1) := by decide +kernel
theorem dX11_leads_27 : decode kX11_leads.2.1 27 = .ok (.invokevirtual 138, 3) := by decide +kernel
theorem dX11_leads_30 : decode kX11_leads.2.1 30 = .ok (.iload_n 2, 1) := by decide +kernel
theorem dX11_leads_31 : decode kX11_leads.2.1 31 = .ok (.if_icmp .le 14, 3) := by decide +kernel
theorem dX11_leads_34 : decode kX11_leads.2.1 34 = .ok (.iload_n 3, 1) := by decide +kernel
theorem dX11_leads_35 : decode kX11_leads.2.1 35 = .ok (.istore_n 1, 1) := by decide +kernel
theorem dX11_leads_36 : decode kX11_leads.2.1 36 = .ok (.aload_n 0, 1) := by decide +kernel
theorem dX11_leads_37 : decode kX11_leads.2.1 37 = .ok (.getfield 34, 3) := by decide +kernel
theorem dX11_leads_40 : decode kX11_leads.2.1 40 = .ok (.iload_n 3, 1) := by decide +kernel
theorem dX11_leads_41 : decode kX11_leads.2.1 41 = .ok (.invokevirtual 138, 3) := by decide +kernel
theorem dX11_leads_44 : decode kX11_leads.2.1 44 = .ok (.istore_n 2, 1) := by decide +kernel
theorem dX11_leads_45 : decode kX11_leads.2.1 45 = .ok (.iinc 3 1, 3) := by decide +kernel
theorem dX11_leads_48 : decode kX11_leads.2.1 48 = .ok (.goto (-42), 3) := by decide +kernel
theorem dX11_leads_51 : decode kX11_leads.2.1 51 = .ok (.iload_n 1, 1) := by decide +kernel
theorem dX11_leads_52 : decode kX11_leads.2.1 52 = .ok (.ireturn, 1) := by decide +kernel
theorem dX11_touches_0 : decode kX11_touches.2.1 0 = .ok (.aload_n 0, 1) := by decide +kernel
theorem dX11_touches_1 : decode kX11_touches.2.1 1 = .ok (.iload_n 1, 1) := by decide +kernel
theorem dX11_touches_2 : decode kX11_touches.2.1 2 = .ok (.invokevirtual 124, 3) := by decide +kernel
theorem dX11_touches_5 : decode kX11_touches.2.1 5 = .ok (.ifCond .eq 11, 3) := by decide +kernel
theorem dX11_touches_8 : decode kX11_touches.2.1 8 = .ok (.iload_n 2, 1) := by decide +kernel
theorem dX11_touches_9 : decode kX11_touches.2.1 9 = .ok (.i2l, 1) := by decide +kernel
theorem dX11_touches_10 : decode kX11_touches.2.1 10 = .ok (.invokestatic 150, 3) := by decide +kernel
theorem dX11_touches_13 : decode kX11_touches.2.1 13 = .ok (.ifCond .ne 6, 3) := by decide +kernel
theorem dX11_touches_16 : decode kX11_touches.2.1 16 = .ok (.bipush (-2), 2) := by decide +kernel
theorem dX11_touches_18 : decode kX11_touches.2.1 18 = .ok (.ireturn, 1) := by decide +kernel
theorem dX11_touches_19 : decode kX11_touches.2.1 19 = .ok (.aload_n 0, 1) := by decide +kernel
theorem dX11_touches_20 : decode kX11_touches.2.1 20 = .ok (.iload_n 1, 1) := by decide +kernel
theorem dX11_touches_21 : decode kX11_touches.2.1 21 = .ok (.invokevirtual 220, 3) := by decide +kernel
theorem dX11_touches_24 : decode kX11_touches.2.1 24 = .ok (.iload_n 2, 1) := by decide +kernel
theorem dX11_touches_25 : decode kX11_touches.2.1 25 = .ok (.invokevirtual 224, 3) := by decide +kernel
theorem dX11_touches_28 : decode kX11_touches.2.1 28 = .ok (.ireturn, 1) := by decide +kernel
theorem dX11_mean_0 : decode kX11_mean.2.1 0 = .ok (.aload_n 0, 1) := by decide +kernel
theorem dX11_mean_1 : decode kX11_mean.2.1 1 = .ok (.iload_n 1, 1) := by decide +kernel
theorem dX11_mean_2 : decode kX11_mean.2.1 2 = .ok (.invokevirtual 124, 3) := by decide +kernel
theorem dX11_mean_5 : decode kX11_mean.2.1 5 = .ok (.ifCond .eq 18, 3) := by decide +kernel
theorem dX11_mean_8 : decode kX11_mean.2.1 8 = .ok (.iload_n 2, 1) := by decide +kernel
theorem dX11_mean_9 : decode kX11_mean.2.1 9 = .ok (.i2l, 1) := by decide +kernel
theorem dX11_mean_10 : decode kX11_mean.2.1 10 = .ok (.invokestatic 150, 3) := by decide +kernel
theorem dX11_mean_13 : decode kX11_mean.2.1 13 = .ok (.ifCond .eq 10, 3) := by decide +kernel
theorem dX11_mean_16 : decode kX11_mean.2.1 16 = .ok (.iload_n 3, 1) := by decide +kernel
theorem dX11_mean_17 : decode kX11_mean.2.1 17 = .ok (.invokestatic 128, 3) := by decide +kernel
theorem dX11_mean_20 : decode kX11_mean.2.1 20 = .ok (.ifCond .ne 6, 3) := by decide +kernel
theorem dX11_mean_23 : decode kX11_mean.2.1 23 = .ok (.ldc 141, 2) := by decide +kernel
theorem dX11_mean_25 : decode kX11_mean.2.1 25 = .ok (.ireturn, 1) := by decide +kernel
theorem dX11_mean_26 : decode kX11_mean.2.1 26 = .ok (.aload_n 0, 1) := by decide +kernel
theorem dX11_mean_27 : decode kX11_mean.2.1 27 = .ok (.iload_n 1, 1) := by decide +kernel
theorem dX11_mean_28 : decode kX11_mean.2.1 28 = .ok (.invokevirtual 220, 3) := by decide +kernel
theorem dX11_mean_31 : decode kX11_mean.2.1 31 = .ok (.iload_n 2, 1) := by decide +kernel
theorem dX11_mean_32 : decode kX11_mean.2.1 32 = .ok (.aload_n 0, 1) := by decide +kernel
theorem dX11_mean_33 : decode kX11_mean.2.1 33 = .ok (.invokevirtual 227, 3) := by decide +kernel
theorem dX11_mean_36 : decode kX11_mean.2.1 36 = .ok (.invokevirtual 230, 3) := by decide +kernel
theorem dX11_mean_39 : decode kX11_mean.2.1 39 = .ok (.istore 4, 2) := by decide +kernel
theorem dX11_mean_41 : decode kX11_mean.2.1 41 = .ok (.iload 4, 2) := by decide +kernel
theorem dX11_mean_43 : decode kX11_mean.2.1 43 = .ok (.i2l, 1) := by decide +kernel
theorem dX11_mean_44 : decode kX11_mean.2.1 44 = .ok (.ldc2_w 234, 3) := by decide +kernel
theorem dX11_mean_47 : decode kX11_mean.2.1 47 = .ok (.iload_n 3, 1) := by decide +kernel
theorem dX11_mean_48 : decode kX11_mean.2.1 48 = .ok (.invokestatic 236, 3) := by decide +kernel
theorem dX11_mean_51 : decode kX11_mean.2.1 51 = .ok (.l2i, 1) := by decide +kernel
theorem dX11_mean_52 : decode kX11_mean.2.1 52 = .ok (.ireturn, 1) := by decide +kernel
theorem dX11_bestAim_0 : decode kX11_bestAim.2.1 0 = .ok (.aload_n 0, 1) := by decide +kernel
theorem dX11_bestAim_1 : decode kX11_bestAim.2.1 1 = .ok (.iload_n 1, 1) := by decide +kernel
theorem dX11_bestAim_2 : decode kX11_bestAim.2.1 2 = .ok (.invokevirtual 124, 3) := by decide +kernel
theorem dX11_bestAim_5 : decode kX11_bestAim.2.1 5 = .ok (.ifCond .eq 18, 3) := by decide +kernel
theorem dX11_bestAim_8 : decode kX11_bestAim.2.1 8 = .ok (.aload_n 0, 1) := by decide +kernel
theorem dX11_bestAim_9 : decode kX11_bestAim.2.1 9 = .ok (.iload_n 1, 1) := by decide +kernel
theorem dX11_bestAim_10 : decode kX11_bestAim.2.1 10 = .ok (.invokevirtual 220, 3) := by decide +kernel
theorem dX11_bestAim_13 : decode kX11_bestAim.2.1 13 = .ok (.aload_n 0, 1) := by decide +kernel
theorem dX11_bestAim_14 : decode kX11_bestAim.2.1 14 = .ok (.invokevirtual 227, 3) := by decide +kernel
theorem dX11_bestAim_17 : decode kX11_bestAim.2.1 17 = .ok (.invokevirtual 240, 3) := by decide +kernel
theorem dX11_bestAim_20 : decode kX11_bestAim.2.1 20 = .ok (.goto 5, 3) := by decide +kernel
theorem dX11_bestAim_23 : decode kX11_bestAim.2.1 23 = .ok (.bipush (-2), 2) := by decide +kernel
theorem dX11_bestAim_25 : decode kX11_bestAim.2.1 25 = .ok (.ireturn, 1) := by decide +kernel
theorem dX11_careful_0 : decode kX11_careful.2.1 0 = .ok (.aload_n 0, 1) := by decide +kernel
theorem dX11_careful_1 : decode kX11_careful.2.1 1 = .ok (.iload_n 1, 1) := by decide +kernel
theorem dX11_careful_2 : decode kX11_careful.2.1 2 = .ok (.invokevirtual 124, 3) := by decide +kernel
theorem dX11_careful_5 : decode kX11_careful.2.1 5 = .ok (.ifCond .ne 6, 3) := by decide +kernel
theorem dX11_careful_8 : decode kX11_careful.2.1 8 = .ok (.bipush (-2), 2) := by decide +kernel
theorem dX11_careful_10 : decode kX11_careful.2.1 10 = .ok (.ireturn, 1) := by decide +kernel
theorem dX11_careful_11 : decode kX11_careful.2.1 11 = .ok (.aload_n 0, 1) := by decide +kernel
theorem dX11_careful_12 : decode kX11_careful.2.1 12 = .ok (.iload_n 1, 1) := by decide +kernel
theorem dX11_careful_13 : decode kX11_careful.2.1 13 = .ok (.invokevirtual 220, 3) := by decide +kernel
theorem dX11_careful_16 : decode kX11_careful.2.1 16 = .ok (.astore_n 2, 1) := by decide +kernel
theorem dX11_careful_17 : decode kX11_careful.2.1 17 = .ok (.iconst 0, 1) := by decide +kernel
theorem dX11_careful_18 : decode kX11_careful.2.1 18 = .ok (.istore_n 3, 1) := by decide +kernel
theorem dX11_careful_19 : decode kX11_careful.2.1 19 = .ok (.iconst 0, 1) := by decide +kernel
theorem dX11_careful_20 : decode kX11_careful.2.1 20 = .ok (.istore 4, 2) := by decide +kernel
theorem dX11_careful_22 : decode kX11_careful.2.1 22 = .ok (.iload 4, 2) := by decide +kernel
theorem dX11_careful_24 : decode kX11_careful.2.1 24 = .ok (.bipush 21, 2) := by decide +kernel
theorem dX11_careful_26 : decode kX11_careful.2.1 26 = .ok (.if_icmp .ge 25, 3) := by decide +kernel
theorem dX11_careful_29 : decode kX11_careful.2.1 29 = .ok (.aload_n 2, 1) := by decide +kernel
theorem dX11_careful_30 : decode kX11_careful.2.1 30 = .ok (.iload 4, 2) := by decide +kernel
theorem dX11_careful_32 : decode kX11_careful.2.1 32 = .ok (.invokevirtual 224, 3) := by decide +kernel
theorem dX11_careful_35 : decode kX11_careful.2.1 35 = .ok (.ifCond .ne 10, 3) := by decide +kernel
theorem dX11_careful_38 : decode kX11_careful.2.1 38 = .ok (.iload_n 3, 1) := by decide +kernel
theorem dX11_careful_39 : decode kX11_careful.2.1 39 = .ok (.iconst 1, 1) := by decide +kernel
theorem dX11_careful_40 : decode kX11_careful.2.1 40 = .ok (.iload 4, 2) := by decide +kernel
theorem dX11_careful_42 : decode kX11_careful.2.1 42 = .ok (.ishl, 1) := by decide +kernel
theorem dX11_careful_43 : decode kX11_careful.2.1 43 = .ok (.ior, 1) := by decide +kernel
theorem dX11_careful_44 : decode kX11_careful.2.1 44 = .ok (.istore_n 3, 1) := by decide +kernel
theorem dX11_careful_45 : decode kX11_careful.2.1 45 = .ok (.iinc 4 1, 3) := by decide +kernel
theorem dX11_careful_48 : decode kX11_careful.2.1 48 = .ok (.goto (-26), 3) := by decide +kernel
theorem dX11_careful_51 : decode kX11_careful.2.1 51 = .ok (.iload_n 3, 1) := by decide +kernel
theorem dX11_careful_52 : decode kX11_careful.2.1 52 = .ok (.ireturn, 1) := by decide +kernel
theorem dX11_edge_0 : decode kX11_edge.2.1 0 = .ok (.aload_n 0, 1) := by decide +kernel
theorem dX11_edge_1 : decode kX11_edge.2.1 1 = .ok (.iload_n 1, 1) := by decide +kernel
theorem dX11_edge_2 : decode kX11_edge.2.1 2 = .ok (.invokevirtual 124, 3) := by decide +kernel
theorem dX11_edge_5 : decode kX11_edge.2.1 5 = .ok (.ifCond .ne 6, 3) := by decide +kernel
theorem dX11_edge_8 : decode kX11_edge.2.1 8 = .ok (.bipush (-2), 2) := by decide +kernel
theorem dX11_edge_10 : decode kX11_edge.2.1 10 = .ok (.ireturn, 1) := by decide +kernel
theorem dX11_edge_11 : decode kX11_edge.2.1 11 = .ok (.aload_n 0, 1) := by decide +kernel
theorem dX11_edge_12 : decode kX11_edge.2.1 12 = .ok (.iload_n 1, 1) := by decide +kernel
theorem dX11_edge_13 : decode kX11_edge.2.1 13 = .ok (.invokevirtual 220, 3) := by decide +kernel
theorem dX11_edge_16 : decode kX11_edge.2.1 16 = .ok (.astore_n 2, 1) := by decide +kernel
theorem dX11_edge_17 : decode kX11_edge.2.1 17 = .ok (.iconst (-1), 1) := by decide +kernel
theorem dX11_edge_18 : decode kX11_edge.2.1 18 = .ok (.istore_n 3, 1) := by decide +kernel
theorem dX11_edge_19 : decode kX11_edge.2.1 19 = .ok (.iconst 0, 1) := by decide +kernel
theorem dX11_edge_20 : decode kX11_edge.2.1 20 = .ok (.istore 4, 2) := by decide +kernel
theorem dX11_edge_22 : decode kX11_edge.2.1 22 = .ok (.iconst 0, 1) := by decide +kernel
theorem dX11_edge_23 : decode kX11_edge.2.1 23 = .ok (.istore 5, 2) := by decide +kernel
theorem dX11_edge_25 : decode kX11_edge.2.1 25 = .ok (.iload 5, 2) := by decide +kernel
theorem dX11_edge_27 : decode kX11_edge.2.1 27 = .ok (.bipush 21, 2) := by decide +kernel
theorem dX11_edge_29 : decode kX11_edge.2.1 29 = .ok (.if_icmp .ge 46, 3) := by decide +kernel
theorem dX11_edge_32 : decode kX11_edge.2.1 32 = .ok (.aload_n 2, 1) := by decide +kernel
theorem dX11_edge_33 : decode kX11_edge.2.1 33 = .ok (.iload 5, 2) := by decide +kernel
theorem dX11_edge_35 : decode kX11_edge.2.1 35 = .ok (.iconst 0, 1) := by decide +kernel
theorem dX11_edge_36 : decode kX11_edge.2.1 36 = .ok (.invokevirtual 230, 3) := by decide +kernel
theorem dX11_edge_39 : decode kX11_edge.2.1 39 = .ok (.istore 6, 2) := by decide +kernel
theorem dX11_edge_41 : decode kX11_edge.2.1 41 = .ok (.aload_n 2, 1) := by decide +kernel
theorem dX11_edge_42 : decode kX11_edge.2.1 42 = .ok (.iload 5, 2) := by decide +kernel
theorem dX11_edge_44 : decode kX11_edge.2.1 44 = .ok (.invokevirtual 224, 3) := by decide +kernel
theorem dX11_edge_47 : decode kX11_edge.2.1 47 = .ok (.ifCond .ne 22, 3) := by decide +kernel
theorem dX11_edge_50 : decode kX11_edge.2.1 50 = .ok (.iload_n 3, 1) := by decide +kernel
theorem dX11_edge_51 : decode kX11_edge.2.1 51 = .ok (.iconst (-1), 1) := by decide +kernel
theorem dX11_edge_52 : decode kX11_edge.2.1 52 = .ok (.if_icmp .eq 10, 3) := by decide +kernel
theorem dX11_edge_55 : decode kX11_edge.2.1 55 = .ok (.iload 6, 2) := by decide +kernel
theorem dX11_edge_57 : decode kX11_edge.2.1 57 = .ok (.iload 4, 2) := by decide +kernel
theorem dX11_edge_59 : decode kX11_edge.2.1 59 = .ok (.if_icmp .le 10, 3) := by decide +kernel
theorem dX11_edge_62 : decode kX11_edge.2.1 62 = .ok (.iload 5, 2) := by decide +kernel
theorem dX11_edge_64 : decode kX11_edge.2.1 64 = .ok (.istore_n 3, 1) := by decide +kernel
theorem dX11_edge_65 : decode kX11_edge.2.1 65 = .ok (.iload 6, 2) := by decide +kernel
theorem dX11_edge_67 : decode kX11_edge.2.1 67 = .ok (.istore 4, 2) := by decide +kernel
theorem dX11_edge_69 : decode kX11_edge.2.1 69 = .ok (.iinc 5 1, 3) := by decide +kernel
theorem dX11_edge_72 : decode kX11_edge.2.1 72 = .ok (.goto (-47), 3) := by decide +kernel
theorem dX11_edge_75 : decode kX11_edge.2.1 75 = .ok (.iload_n 3, 1) := by decide +kernel
theorem dX11_edge_76 : decode kX11_edge.2.1 76 = .ok (.ireturn, 1) := by decide +kernel
theorem dX11_dares_0 : decode kX11_dares.2.1 0 = .ok (.aload_n 0, 1) := by decide +kernel
theorem dX11_dares_1 : decode kX11_dares.2.1 1 = .ok (.iload_n 1, 1) := by decide +kernel
theorem dX11_dares_2 : decode kX11_dares.2.1 2 = .ok (.invokevirtual 124, 3) := by decide +kernel
theorem dX11_dares_5 : decode kX11_dares.2.1 5 = .ok (.ifCond .ne 6, 3) := by decide +kernel
theorem dX11_dares_8 : decode kX11_dares.2.1 8 = .ok (.bipush (-2), 2) := by decide +kernel
theorem dX11_dares_10 : decode kX11_dares.2.1 10 = .ok (.ireturn, 1) := by decide +kernel
theorem dX11_dares_11 : decode kX11_dares.2.1 11 = .ok (.aload_n 0, 1) := by decide +kernel
theorem dX11_dares_12 : decode kX11_dares.2.1 12 = .ok (.iload_n 1, 1) := by decide +kernel
theorem dX11_dares_13 : decode kX11_dares.2.1 13 = .ok (.invokevirtual 220, 3) := by decide +kernel
theorem dX11_dares_16 : decode kX11_dares.2.1 16 = .ok (.astore_n 2, 1) := by decide +kernel
theorem dX11_dares_17 : decode kX11_dares.2.1 17 = .ok (.bipush 99, 2) := by decide +kernel
theorem dX11_dares_19 : decode kX11_dares.2.1 19 = .ok (.istore_n 3, 1) := by decide +kernel
theorem dX11_dares_20 : decode kX11_dares.2.1 20 = .ok (.iload_n 3, 1) := by decide +kernel
theorem dX11_dares_21 : decode kX11_dares.2.1 21 = .ok (.ifCond .lt 23, 3) := by decide +kernel
theorem dX11_dares_24 : decode kX11_dares.2.1 24 = .ok (.aload_n 2, 1) := by decide +kernel
theorem dX11_dares_25 : decode kX11_dares.2.1 25 = .ok (.aload_n 2, 1) := by decide +kernel
theorem dX11_dares_26 : decode kX11_dares.2.1 26 = .ok (.iload_n 3, 1) := by decide +kernel
theorem dX11_dares_27 : decode kX11_dares.2.1 27 = .ok (.invokevirtual 240, 3) := by decide +kernel
theorem dX11_dares_30 : decode kX11_dares.2.1 30 = .ok (.invokevirtual 224, 3) := by decide +kernel
theorem dX11_dares_33 : decode kX11_dares.2.1 33 = .ok (.ifCond .le 5, 3) := by decide +kernel
theorem dX11_dares_36 : decode kX11_dares.2.1 36 = .ok (.iload_n 3, 1) := by decide +kernel
theorem dX11_dares_37 : decode kX11_dares.2.1 37 = .ok (.ireturn, 1) := by decide +kernel
theorem dX11_dares_38 : decode kX11_dares.2.1 38 = .ok (.iinc 3 (-1), 3) := by decide +kernel
theorem dX11_dares_41 : decode kX11_dares.2.1 41 = .ok (.goto (-21), 3) := by decide +kernel
theorem dX11_dares_44 : decode kX11_dares.2.1 44 = .ok (.iconst (-1), 1) := by decide +kernel
theorem dX11_dares_45 : decode kX11_dares.2.1 45 = .ok (.ireturn, 1) := by decide +kernel
theorem dX11_likeliest_0 : decode kX11_likeliest.2.1 0 = .ok (.aload_n 0, 1) := by decide +kernel
theorem dX11_likeliest_1 : decode kX11_likeliest.2.1 1 = .ok (.iload_n 1, 1) := by decide +kernel
theorem dX11_likeliest_2 : decode kX11_likeliest.2.1 2 = .ok (.invokevirtual 124, 3) := by decide +kernel
theorem dX11_likeliest_5 : decode kX11_likeliest.2.1 5 = .ok (.ifCond .eq 11, 3) := by decide +kernel
theorem dX11_likeliest_8 : decode kX11_likeliest.2.1 8 = .ok (.iload_n 2, 1) := by decide +kernel
theorem dX11_likeliest_9 : decode kX11_likeliest.2.1 9 = .ok (.i2l, 1) := by decide +kernel
theorem dX11_likeliest_10 : decode kX11_likeliest.2.1 10 = .ok (.invokestatic 150, 3) := by decide +kernel
theorem dX11_likeliest_13 : decode kX11_likeliest.2.1 13 = .ok (.ifCond .ne 6, 3) := by decide +kernel
theorem dX11_likeliest_16 : decode kX11_likeliest.2.1 16 = .ok (.bipush (-2), 2) := by decide +kernel
theorem dX11_likeliest_18 : decode kX11_likeliest.2.1 18 = .ok (.ireturn, 1) := by decide +kernel
theorem dX11_likeliest_19 : decode kX11_likeliest.2.1 19 = .ok (.aload_n 0, 1) := by decide +kernel
theorem dX11_likeliest_20 : decode kX11_likeliest.2.1 20 = .ok (.iload_n 1, 1) := by decide +kernel
theorem dX11_likeliest_21 : decode kX11_likeliest.2.1 21 = .ok (.iload_n 2, 1) := by decide +kernel
theorem dX11_likeliest_22 : decode kX11_likeliest.2.1 22 = .ok (.invokevirtual 243, 3) := by decide +kernel
theorem dX11_likeliest_25 : decode kX11_likeliest.2.1 25 = .ok (.iconst 0, 1) := by decide +kernel
theorem dX11_likeliest_26 : decode kX11_likeliest.2.1 26 = .ok (.istore_n 3, 1) := by decide +kernel
theorem dX11_likeliest_27 : decode kX11_likeliest.2.1 27 = .ok (.iconst 1, 1) := by decide +kernel
theorem dX11_likeliest_28 : decode kX11_likeliest.2.1 28 = .ok (.istore 4, 2) := by decide +kernel
theorem dX11_likeliest_30 : decode kX11_likeliest.2.1 30 = .ok (.iload 4, 2) := by decide +kernel
theorem dX11_likeliest_32 : decode kX11_likeliest.2.1 32 = .ok (.bipush 21, 2) := by decide +kernel
theorem dX11_likeliest_34 : decode kX11_likeliest.2.1 34 = .ok (.if_icmp .ge 28, 3) := by decide +kernel
theorem dX11_likeliest_37 : decode kX11_likeliest.2.1 37 = .ok (.aload_n 0, 1) := by decide +kernel
theorem dX11_likeliest_38 : decode kX11_likeliest.2.1 38 = .ok (.getfield 75, 3) := by decide +kernel
theorem dX11_likeliest_41 : decode kX11_likeliest.2.1 41 = .ok (.iload 4, 2) := by decide +kernel
theorem dX11_likeliest_43 : decode kX11_likeliest.2.1 43 = .ok (.iaload, 1) := by decide +kernel
theorem dX11_likeliest_44 : decode kX11_likeliest.2.1 44 = .ok (.aload_n 0, 1) := by decide +kernel
theorem dX11_likeliest_45 : decode kX11_likeliest.2.1 45 = .ok (.getfield 75, 3) := by decide +kernel
theorem dX11_likeliest_48 : decode kX11_likeliest.2.1 48 = .ok (.iload_n 3, 1) := by decide +kernel
theorem dX11_likeliest_49 : decode kX11_likeliest.2.1 49 = .ok (.iaload, 1) := by decide +kernel
theorem dX11_likeliest_50 : decode kX11_likeliest.2.1 50 = .ok (.if_icmp .le 6, 3) := by decide +kernel
theorem dX11_likeliest_53 : decode kX11_likeliest.2.1 53 = .ok (.iload 4, 2) := by decide +kernel
theorem dX11_likeliest_55 : decode kX11_likeliest.2.1 55 = .ok (.istore_n 3, 1) := by decide +kernel
theorem dX11_likeliest_56 : decode kX11_likeliest.2.1 56 = .ok (.iinc 4 1, 3) := by decide +kernel
theorem dX11_likeliest_59 : decode kX11_likeliest.2.1 59 = .ok (.goto (-29), 3) := by decide +kernel
theorem dX11_likeliest_62 : decode kX11_likeliest.2.1 62 = .ok (.iload_n 3, 1) := by decide +kernel
theorem dX11_likeliest_63 : decode kX11_likeliest.2.1 63 = .ok (.ireturn, 1) := by decide +kernel
theorem dX11_leaves_0 : decode kX11_leaves.2.1 0 = .ok (.aload_n 0, 1) := by decide +kernel
theorem dX11_leaves_1 : decode kX11_leaves.2.1 1 = .ok (.iload_n 1, 1) := by decide +kernel
theorem dX11_leaves_2 : decode kX11_leaves.2.1 2 = .ok (.invokevirtual 124, 3) := by decide +kernel
theorem dX11_leaves_5 : decode kX11_leaves.2.1 5 = .ok (.ifCond .ne 6, 3) := by decide +kernel
theorem dX11_leaves_8 : decode kX11_leaves.2.1 8 = .ok (.bipush (-2), 2) := by decide +kernel
theorem dX11_leaves_10 : decode kX11_leaves.2.1 10 = .ok (.ireturn, 1) := by decide +kernel
theorem dX11_leaves_11 : decode kX11_leaves.2.1 11 = .ok (.iload_n 2, 1) := by decide +kernel
theorem dX11_leaves_12 : decode kX11_leaves.2.1 12 = .ok (.ifCond .lt 9, 3) := by decide +kernel
theorem dX11_leaves_15 : decode kX11_leaves.2.1 15 = .ok (.iload_n 2, 1) := by decide +kernel
theorem dX11_leaves_16 : decode kX11_leaves.2.1 16 = .ok (.bipush 99, 2) := by decide +kernel
theorem dX11_leaves_18 : decode kX11_leaves.2.1 18 = .ok (.if_icmp .le 6, 3) := by decide +kernel
theorem dX11_leaves_21 : decode kX11_leaves.2.1 21 = .ok (.bipush (-3), 2) := by decide +kernel
theorem dX11_leaves_23 : decode kX11_leaves.2.1 23 = .ok (.ireturn, 1) := by decide +kernel
theorem dX11_leaves_24 : decode kX11_leaves.2.1 24 = .ok (.aload_n 0, 1) := by decide +kernel
theorem dX11_leaves_25 : decode kX11_leaves.2.1 25 = .ok (.invokevirtual 227, 3) := by decide +kernel
theorem dX11_leaves_28 : decode kX11_leaves.2.1 28 = .ok (.istore_n 3, 1) := by decide +kernel
theorem dX11_leaves_29 : decode kX11_leaves.2.1 29 = .ok (.aload_n 0, 1) := by decide +kernel
theorem dX11_leaves_30 : decode kX11_leaves.2.1 30 = .ok (.getfield 71, 3) := by decide +kernel
theorem dX11_leaves_33 : decode kX11_leaves.2.1 33 = .ok (.iconst 0, 1) := by decide +kernel
theorem dX11_leaves_34 : decode kX11_leaves.2.1 34 = .ok (.aaload, 1) := by decide +kernel
theorem dX11_leaves_35 : decode kX11_leaves.2.1 35 = .ok (.astore 4, 2) := by decide +kernel
theorem dX11_leaves_37 : decode kX11_leaves.2.1 37 = .ok (.iconst 0, 1) := by decide +kernel
theorem dX11_leaves_38 : decode kX11_leaves.2.1 38 = .ok (.istore 5, 2) := by decide +kernel
theorem dX11_leaves_40 : decode kX11_leaves.2.1 40 = .ok (.iload 5, 2) := by decide +kernel
theorem dX11_leaves_42 : decode kX11_leaves.2.1 42 = .ok (.bipush 9, 2) := by decide +kernel
theorem dX11_leaves_44 : decode kX11_leaves.2.1 44 = .ok (.if_icmp .gt 61, 3) := by decide +kernel
theorem dX11_leaves_47 : decode kX11_leaves.2.1 47 = .ok (.aload 4, 2) := by decide +kernel
theorem dX11_leaves_49 : decode kX11_leaves.2.1 49 = .ok (.aload_n 0, 1) := by decide +kernel
theorem dX11_leaves_50 : decode kX11_leaves.2.1 50 = .ok (.getfield 65, 3) := by decide +kernel
theorem dX11_leaves_53 : decode kX11_leaves.2.1 53 = .ok (.aload_n 0, 1) := by decide +kernel
theorem dX11_leaves_54 : decode kX11_leaves.2.1 54 = .ok (.getfield 27, 3) := by decide +kernel
theorem dX11_leaves_57 : decode kX11_leaves.2.1 57 = .ok (.aload_n 0, 1) := by decide +kernel
theorem dX11_leaves_58 : decode kX11_leaves.2.1 58 = .ok (.getfield 27, 3) := by decide +kernel
theorem dX11_leaves_61 : decode kX11_leaves.2.1 61 = .ok (.iload_n 1, 1) := by decide +kernel
theorem dX11_leaves_62 : decode kX11_leaves.2.1 62 = .ok (.invokevirtual 131, 3) := by decide +kernel
theorem dX11_leaves_65 : decode kX11_leaves.2.1 65 = .ok (.iload 5, 2) := by decide +kernel
theorem dX11_leaves_67 : decode kX11_leaves.2.1 67 = .ok (.aload_n 0, 1) := by decide +kernel
theorem dX11_leaves_68 : decode kX11_leaves.2.1 68 = .ok (.getfield 34, 3) := by decide +kernel
theorem dX11_leaves_71 : decode kX11_leaves.2.1 71 = .ok (.getfield 186, 3) := by decide +kernel
theorem dX11_leaves_74 : decode kX11_leaves.2.1 74 = .ok (.invokevirtual 247, 3) := by decide +kernel
theorem dX11_leaves_77 : decode kX11_leaves.2.1 77 = .ok (.aload 4, 2) := by decide +kernel
theorem dX11_leaves_79 : decode kX11_leaves.2.1 79 = .ok (.aload 4, 2) := by decide +kernel
theorem dX11_leaves_81 : decode kX11_leaves.2.1 81 = .ok (.iload_n 3, 1) := by decide +kernel
theorem dX11_leaves_82 : decode kX11_leaves.2.1 82 = .ok (.invokevirtual 240, 3) := by decide +kernel
theorem dX11_leaves_85 : decode kX11_leaves.2.1 85 = .ok (.iload_n 3, 1) := by decide +kernel
theorem dX11_leaves_86 : decode kX11_leaves.2.1 86 = .ok (.invokevirtual 230, 3) := by decide +kernel
theorem dX11_leaves_89 : decode kX11_leaves.2.1 89 = .ok (.iload_n 2, 1) := by decide +kernel
theorem dX11_leaves_90 : decode kX11_leaves.2.1 90 = .ok (.bipush 10, 2) := by decide +kernel
theorem dX11_leaves_92 : decode kX11_leaves.2.1 92 = .ok (.imul, 1) := by decide +kernel
theorem dX11_leaves_93 : decode kX11_leaves.2.1 93 = .ok (.if_icmp .gt 6, 3) := by decide +kernel
theorem dX11_leaves_96 : decode kX11_leaves.2.1 96 = .ok (.iload 5, 2) := by decide +kernel
theorem dX11_leaves_98 : decode kX11_leaves.2.1 98 = .ok (.ireturn, 1) := by decide +kernel
theorem dX11_leaves_99 : decode kX11_leaves.2.1 99 = .ok (.iinc 5 1, 3) := by decide +kernel
theorem dX11_leaves_102 : decode kX11_leaves.2.1 102 = .ok (.goto (-62), 3) := by decide +kernel
theorem dX11_leaves_105 : decode kX11_leaves.2.1 105 = .ok (.iconst (-1), 1) := by decide +kernel
theorem dX11_leaves_106 : decode kX11_leaves.2.1 106 = .ok (.ireturn, 1) := by decide +kernel
theorem dX11_greedy_0 : decode kX11_greedy.2.1 0 = .ok (.iconst 0, 1) := by decide +kernel
theorem dX11_greedy_1 : decode kX11_greedy.2.1 1 = .ok (.istore_n 1, 1) := by decide +kernel
theorem dX11_greedy_2 : decode kX11_greedy.2.1 2 = .ok (.iconst 0, 1) := by decide +kernel
theorem dX11_greedy_3 : decode kX11_greedy.2.1 3 = .ok (.istore_n 2, 1) := by decide +kernel
theorem dX11_greedy_4 : decode kX11_greedy.2.1 4 = .ok (.iload_n 2, 1) := by decide +kernel
theorem dX11_greedy_5 : decode kX11_greedy.2.1 5 = .ok (.aload_n 0, 1) := by decide +kernel
theorem dX11_greedy_6 : decode kX11_greedy.2.1 6 = .ok (.getfield 27, 3) := by decide +kernel
theorem dX11_greedy_9 : decode kX11_greedy.2.1 9 = .ok (.getfield 217, 3) := by decide +kernel
theorem dX11_greedy_12 : decode kX11_greedy.2.1 12 = .ok (.if_icmp .ge 33, 3) := by decide +kernel
theorem dX11_greedy_15 : decode kX11_greedy.2.1 15 = .ok (.aload_n 0, 1) := by decide +kernel
theorem dX11_greedy_16 : decode kX11_greedy.2.1 16 = .ok (.iload_n 2, 1) := by decide +kernel
theorem dX11_greedy_17 : decode kX11_greedy.2.1 17 = .ok (.invokevirtual 220, 3) := by decide +kernel
theorem dX11_greedy_20 : decode kX11_greedy.2.1 20 = .ok (.astore_n 3, 1) := by decide +kernel
theorem dX11_greedy_21 : decode kX11_greedy.2.1 21 = .ok (.aload_n 3, 1) := by decide +kernel
theorem dX11_greedy_22 : decode kX11_greedy.2.1 22 = .ok (.aload_n 3, 1) := by decide +kernel
theorem dX11_greedy_23 : decode kX11_greedy.2.1 23 = .ok (.iconst 0, 1) := by decide +kernel
theorem dX11_greedy_24 : decode kX11_greedy.2.1 24 = .ok (.invokevirtual 240, 3) := by decide +kernel
theorem dX11_greedy_27 : decode kX11_greedy.2.1 27 = .ok (.invokevirtual 224, 3) := by decide +kernel
theorem dX11_greedy_30 : decode kX11_greedy.2.1 30 = .ok (.ifCond .le 9, 3) := by decide +kernel
theorem dX11_greedy_33 : decode kX11_greedy.2.1 33 = .ok (.iload_n 1, 1) := by decide +kernel
theorem dX11_greedy_34 : decode kX11_greedy.2.1 34 = .ok (.iconst 1, 1) := by decide +kernel
theorem dX11_greedy_35 : decode kX11_greedy.2.1 35 = .ok (.iload_n 2, 1) := by decide +kernel
theorem dX11_greedy_36 : decode kX11_greedy.2.1 36 = .ok (.ishl, 1) := by decide +kernel
theorem dX11_greedy_37 : decode kX11_greedy.2.1 37 = .ok (.ior, 1) := by decide +kernel
theorem dX11_greedy_38 : decode kX11_greedy.2.1 38 = .ok (.istore_n 1, 1) := by decide +kernel
theorem dX11_greedy_39 : decode kX11_greedy.2.1 39 = .ok (.iinc 2 1, 3) := by decide +kernel
theorem dX11_greedy_42 : decode kX11_greedy.2.1 42 = .ok (.goto (-38), 3) := by decide +kernel
theorem dX11_greedy_45 : decode kX11_greedy.2.1 45 = .ok (.iload_n 1, 1) := by decide +kernel
theorem dX11_greedy_46 : decode kX11_greedy.2.1 46 = .ok (.ireturn, 1) := by decide +kernel
theorem dX11_beats_0 : decode kX11_beats.2.1 0 = .ok (.aload_n 0, 1) := by decide +kernel
theorem dX11_beats_1 : decode kX11_beats.2.1 1 = .ok (.iload_n 1, 1) := by decide +kernel
theorem dX11_beats_2 : decode kX11_beats.2.1 2 = .ok (.invokevirtual 124, 3) := by decide +kernel
theorem dX11_beats_5 : decode kX11_beats.2.1 5 = .ok (.ifCond .eq 24, 3) := by decide +kernel
theorem dX11_beats_8 : decode kX11_beats.2.1 8 = .ok (.aload_n 0, 1) := by decide +kernel
theorem dX11_beats_9 : decode kX11_beats.2.1 9 = .ok (.iload_n 2, 1) := by decide +kernel
theorem dX11_beats_10 : decode kX11_beats.2.1 10 = .ok (.invokevirtual 124, 3) := by decide +kernel
theorem dX11_beats_13 : decode kX11_beats.2.1 13 = .ok (.ifCond .eq 16, 3) := by decide +kernel
theorem dX11_beats_16 : decode kX11_beats.2.1 16 = .ok (.iload_n 1, 1) := by decide +kernel
theorem dX11_beats_17 : decode kX11_beats.2.1 17 = .ok (.iload_n 2, 1) := by decide +kernel
theorem dX11_beats_18 : decode kX11_beats.2.1 18 = .ok (.if_icmp .eq 11, 3) := by decide +kernel
theorem dX11_beats_21 : decode kX11_beats.2.1 21 = .ok (.iload 4, 2) := by decide +kernel
theorem dX11_beats_23 : decode kX11_beats.2.1 23 = .ok (.invokestatic 128, 3) := by decide +kernel
theorem dX11_beats_26 : decode kX11_beats.2.1 26 = .ok (.ifCond .ne 7, 3) := by decide +kernel
theorem dX11_beats_29 : decode kX11_beats.2.1 29 = .ok (.ldc2_w 251, 3) := by decide +kernel
theorem dX11_beats_32 : decode kX11_beats.2.1 32 = .ok (.lreturn, 1) := by decide +kernel
theorem dX11_beats_33 : decode kX11_beats.2.1 33 = .ok (.iload_n 3, 1) := by decide +kernel
theorem dX11_beats_34 : decode kX11_beats.2.1 34 = .ok (.iconst 1, 1) := by decide +kernel
theorem dX11_beats_35 : decode kX11_beats.2.1 35 = .ok (.if_icmp .lt 8, 3) := by decide +kernel
theorem dX11_beats_38 : decode kX11_beats.2.1 38 = .ok (.iload_n 3, 1) := by decide +kernel
theorem dX11_beats_39 : decode kX11_beats.2.1 39 = .ok (.iconst 3, 1) := by decide +kernel
theorem dX11_beats_40 : decode kX11_beats.2.1 40 = .ok (.if_icmp .le 7, 3) := by decide +kernel
theorem dX11_beats_43 : decode kX11_beats.2.1 43 = .ok (.ldc2_w 253, 3) := by decide +kernel
theorem dX11_beats_46 : decode kX11_beats.2.1 46 = .ok (.lreturn, 1) := by decide +kernel
theorem dX11_beats_47 : decode kX11_beats.2.1 47 = .ok (.aload_n 0, 1) := by decide +kernel
theorem dX11_beats_48 : decode kX11_beats.2.1 48 = .ok (.getfield 86, 3) := by decide +kernel
theorem dX11_beats_51 : decode kX11_beats.2.1 51 = .ok (.ifnonnull 14, 3) := by decide +kernel
theorem dX11_beats_54 : decode kX11_beats.2.1 54 = .ok (.aload_n 0, 1) := by decide +kernel
theorem dX11_beats_55 : decode kX11_beats.2.1 55 = .ok (.new 255, 3) := by decide +kernel
theorem dX11_beats_58 : decode kX11_beats.2.1 58 = .ok (.dup, 1) := by decide +kernel
theorem dX11_beats_59 : decode kX11_beats.2.1 59 = .ok (.invokespecial 257, 3) := by decide +kernel
theorem dX11_beats_62 : decode kX11_beats.2.1 62 = .ok (.putfield 86, 3) := by decide +kernel
theorem dX11_beats_65 : decode kX11_beats.2.1 65 = .ok (.aload_n 0, 1) := by decide +kernel
theorem dX11_beats_66 : decode kX11_beats.2.1 66 = .ok (.getfield 86, 3) := by decide +kernel
theorem dX11_beats_69 : decode kX11_beats.2.1 69 = .ok (.invokevirtual 258, 3) := by decide +kernel
theorem dX11_beats_72 : decode kX11_beats.2.1 72 = .ok (.aload_n 0, 1) := by decide +kernel
theorem dX11_beats_73 : decode kX11_beats.2.1 73 = .ok (.aload_n 0, 1) := by decide +kernel
theorem dX11_beats_74 : decode kX11_beats.2.1 74 = .ok (.iload_n 1, 1) := by decide +kernel
theorem dX11_beats_75 : decode kX11_beats.2.1 75 = .ok (.invokevirtual 220, 3) := by decide +kernel
theorem dX11_beats_78 : decode kX11_beats.2.1 78 = .ok (.iload_n 3, 1) := by decide +kernel
theorem dX11_beats_79 : decode kX11_beats.2.1 79 = .ok (.iconst 1, 1) := by decide +kernel
theorem dX11_beats_80 : decode kX11_beats.2.1 80 = .ok (.invokevirtual 260, 3) := by decide +kernel
theorem dX11_beats_83 : decode kX11_beats.2.1 83 = .ok (.aload_n 0, 1) := by decide +kernel
theorem dX11_beats_84 : decode kX11_beats.2.1 84 = .ok (.aload_n 0, 1) := by decide +kernel
theorem dX11_beats_85 : decode kX11_beats.2.1 85 = .ok (.iload_n 2, 1) := by decide +kernel
theorem dX11_beats_86 : decode kX11_beats.2.1 86 = .ok (.invokevirtual 220, 3) := by decide +kernel
theorem dX11_beats_89 : decode kX11_beats.2.1 89 = .ok (.iload_n 3, 1) := by decide +kernel
theorem dX11_beats_90 : decode kX11_beats.2.1 90 = .ok (.iconst (-1), 1) := by decide +kernel
theorem dX11_beats_91 : decode kX11_beats.2.1 91 = .ok (.invokevirtual 260, 3) := by decide +kernel
theorem dX11_beats_94 : decode kX11_beats.2.1 94 = .ok (.aload_n 0, 1) := by decide +kernel
theorem dX11_beats_95 : decode kX11_beats.2.1 95 = .ok (.getfield 86, 3) := by decide +kernel
theorem dX11_beats_98 : decode kX11_beats.2.1 98 = .ok (.invokevirtual 264, 3) := by decide +kernel
theorem dX11_beats_101 : decode kX11_beats.2.1 101 = .ok (.aload_n 0, 1) := by decide +kernel
theorem dX11_beats_102 : decode kX11_beats.2.1 102 = .ok (.getfield 86, 3) := by decide +kernel
theorem dX11_beats_105 : decode kX11_beats.2.1 105 = .ok (.getfield 268, 3) := by decide +kernel
theorem dX11_beats_108 : decode kX11_beats.2.1 108 = .ok (.iload 4, 2) := by decide +kernel
theorem dX11_beats_110 : decode kX11_beats.2.1 110 = .ok (.invokestatic 236, 3) := by decide +kernel
theorem dX11_beats_113 : decode kX11_beats.2.1 113 = .ok (.lreturn, 1) := by decide +kernel
theorem dX11_round_0 : decode kX11_round.2.1 0 = .ok (.aload_n 0, 1) := by decide +kernel
theorem dX11_round_1 : decode kX11_round.2.1 1 = .ok (.iload_n 1, 1) := by decide +kernel
theorem dX11_round_2 : decode kX11_round.2.1 2 = .ok (.invokevirtual 124, 3) := by decide +kernel
theorem dX11_round_5 : decode kX11_round.2.1 5 = .ok (.ifCond .eq 10, 3) := by decide +kernel
theorem dX11_round_8 : decode kX11_round.2.1 8 = .ok (.iload_n 3, 1) := by decide +kernel
theorem dX11_round_9 : decode kX11_round.2.1 9 = .ok (.invokestatic 128, 3) := by decide +kernel
theorem dX11_round_12 : decode kX11_round.2.1 12 = .ok (.ifCond .ne 7, 3) := by decide +kernel
theorem dX11_round_15 : decode kX11_round.2.1 15 = .ok (.ldc2_w 272, 3) := by decide +kernel
theorem dX11_round_18 : decode kX11_round.2.1 18 = .ok (.lreturn, 1) := by decide +kernel
theorem dX11_round_19 : decode kX11_round.2.1 19 = .ok (.iload_n 2, 1) := by decide +kernel
theorem dX11_round_20 : decode kX11_round.2.1 20 = .ok (.ifCond .lt 8, 3) := by decide +kernel
theorem dX11_round_23 : decode kX11_round.2.1 23 = .ok (.iload_n 2, 1) := by decide +kernel
theorem dX11_round_24 : decode kX11_round.2.1 24 = .ok (.iconst 4, 1) := by decide +kernel
theorem dX11_round_25 : decode kX11_round.2.1 25 = .ok (.if_icmp .le 7, 3) := by decide +kernel
theorem dX11_round_28 : decode kX11_round.2.1 28 = .ok (.ldc2_w 274, 3) := by decide +kernel
theorem dX11_round_31 : decode kX11_round.2.1 31 = .ok (.lreturn, 1) := by decide +kernel
theorem dX11_round_32 : decode kX11_round.2.1 32 = .ok (.aload_n 0, 1) := by decide +kernel
theorem dX11_round_33 : decode kX11_round.2.1 33 = .ok (.iload_n 1, 1) := by decide +kernel
theorem dX11_round_34 : decode kX11_round.2.1 34 = .ok (.iload_n 2, 1) := by decide +kernel
theorem dX11_round_35 : decode kX11_round.2.1 35 = .ok (.invokevirtual 276, 3) := by decide +kernel
theorem dX11_round_38 : decode kX11_round.2.1 38 = .ok (.aload_n 0, 1) := by decide +kernel
theorem dX11_round_39 : decode kX11_round.2.1 39 = .ok (.getfield 82, 3) := by decide +kernel
theorem dX11_round_42 : decode kX11_round.2.1 42 = .ok (.iconst 0, 1) := by decide +kernel
theorem dX11_round_43 : decode kX11_round.2.1 43 = .ok (.iconst 0, 1) := by decide +kernel
theorem dX11_round_44 : decode kX11_round.2.1 44 = .ok (.invokevirtual 279, 3) := by decide +kernel
theorem dX11_round_47 : decode kX11_round.2.1 47 = .ok (.aload_n 0, 1) := by decide +kernel
theorem dX11_round_48 : decode kX11_round.2.1 48 = .ok (.getfield 82, 3) := by decide +kernel
theorem dX11_round_51 : decode kX11_round.2.1 51 = .ok (.getfield 282, 3) := by decide +kernel
theorem dX11_round_54 : decode kX11_round.2.1 54 = .ok (.iload_n 3, 1) := by decide +kernel
theorem dX11_round_55 : decode kX11_round.2.1 55 = .ok (.invokestatic 236, 3) := by decide +kernel
theorem dX11_round_58 : decode kX11_round.2.1 58 = .ok (.lreturn, 1) := by decide +kernel
theorem dX11_begins_0 : decode kX11_begins.2.1 0 = .ok (.aload_n 0, 1) := by decide +kernel
theorem dX11_begins_1 : decode kX11_begins.2.1 1 = .ok (.iload_n 1, 1) := by decide +kernel
theorem dX11_begins_2 : decode kX11_begins.2.1 2 = .ok (.invokevirtual 124, 3) := by decide +kernel
theorem dX11_begins_5 : decode kX11_begins.2.1 5 = .ok (.ifCond .ne 6, 3) := by decide +kernel
theorem dX11_begins_8 : decode kX11_begins.2.1 8 = .ok (.bipush (-2), 2) := by decide +kernel
theorem dX11_begins_10 : decode kX11_begins.2.1 10 = .ok (.ireturn, 1) := by decide +kernel
theorem dX11_begins_11 : decode kX11_begins.2.1 11 = .ok (.iload_n 2, 1) := by decide +kernel
theorem dX11_begins_12 : decode kX11_begins.2.1 12 = .ok (.ifCond .lt 8, 3) := by decide +kernel
theorem dX11_begins_15 : decode kX11_begins.2.1 15 = .ok (.iload_n 2, 1) := by decide +kernel
theorem dX11_begins_16 : decode kX11_begins.2.1 16 = .ok (.iconst 4, 1) := by decide +kernel
theorem dX11_begins_17 : decode kX11_begins.2.1 17 = .ok (.if_icmp .le 6, 3) := by decide +kernel
theorem dX11_begins_20 : decode kX11_begins.2.1 20 = .ok (.bipush (-3), 2) := by decide +kernel
theorem dX11_begins_22 : decode kX11_begins.2.1 22 = .ok (.ireturn, 1) := by decide +kernel
theorem dX11_begins_23 : decode kX11_begins.2.1 23 = .ok (.iload_n 2, 1) := by decide +kernel
theorem dX11_begins_24 : decode kX11_begins.2.1 24 = .ok (.ifCond .ne 5, 3) := by decide +kernel
theorem dX11_begins_27 : decode kX11_begins.2.1 27 = .ok (.iconst (-1), 1) := by decide +kernel
theorem dX11_begins_28 : decode kX11_begins.2.1 28 = .ok (.ireturn, 1) := by decide +kernel
theorem dX11_begins_29 : decode kX11_begins.2.1 29 = .ok (.aload_n 0, 1) := by decide +kernel
theorem dX11_begins_30 : decode kX11_begins.2.1 30 = .ok (.iload_n 1, 1) := by decide +kernel
theorem dX11_begins_31 : decode kX11_begins.2.1 31 = .ok (.iload_n 2, 1) := by decide +kernel
theorem dX11_begins_32 : decode kX11_begins.2.1 32 = .ok (.invokevirtual 276, 3) := by decide +kernel
theorem dX11_begins_35 : decode kX11_begins.2.1 35 = .ok (.aload_n 0, 1) := by decide +kernel
theorem dX11_begins_36 : decode kX11_begins.2.1 36 = .ok (.getfield 82, 3) := by decide +kernel
theorem dX11_begins_39 : decode kX11_begins.2.1 39 = .ok (.getfield 285, 3) := by decide +kernel
theorem dX11_begins_42 : decode kX11_begins.2.1 42 = .ok (.ireturn, 1) := by decide +kernel
theorem dX11_shooters_0 : decode kX11_shooters.2.1 0 = .ok (.aload_n 0, 1) := by decide +kernel
theorem dX11_shooters_1 : decode kX11_shooters.2.1 1 = .ok (.iload_n 1, 1) := by decide +kernel
theorem dX11_shooters_2 : decode kX11_shooters.2.1 2 = .ok (.iload_n 2, 1) := by decide +kernel
theorem dX11_shooters_3 : decode kX11_shooters.2.1 3 = .ok (.invokevirtual 288, 3) := by decide +kernel
theorem dX11_shooters_6 : decode kX11_shooters.2.1 6 = .ok (.istore_n 3, 1) := by decide +kernel
theorem dX11_shooters_7 : decode kX11_shooters.2.1 7 = .ok (.iload_n 3, 1) := by decide +kernel
theorem dX11_shooters_8 : decode kX11_shooters.2.1 8 = .ok (.ifCond .eq 7, 3) := by decide +kernel
theorem dX11_shooters_11 : decode kX11_shooters.2.1 11 = .ok (.iload_n 3, 1) := by decide +kernel
theorem dX11_shooters_12 : decode kX11_shooters.2.1 12 = .ok (.goto 9, 3) := by decide +kernel
theorem dX11_shooters_15 : decode kX11_shooters.2.1 15 = .ok (.aload_n 0, 1) := by decide +kernel
theorem dX11_shooters_16 : decode kX11_shooters.2.1 16 = .ok (.iload_n 1, 1) := by decide +kernel
theorem dX11_shooters_17 : decode kX11_shooters.2.1 17 = .ok (.iload_n 2, 1) := by decide +kernel
theorem dX11_shooters_18 : decode kX11_shooters.2.1 18 = .ok (.invokevirtual 291, 3) := by decide +kernel
theorem dX11_shooters_21 : decode kX11_shooters.2.1 21 = .ok (.ireturn, 1) := by decide +kernel
theorem dX11_odds_0 : decode kX11_odds.2.1 0 = .ok (.aload_n 0, 1) := by decide +kernel
theorem dX11_odds_1 : decode kX11_odds.2.1 1 = .ok (.iload_n 3, 1) := by decide +kernel
theorem dX11_odds_2 : decode kX11_odds.2.1 2 = .ok (.invokevirtual 124, 3) := by decide +kernel
theorem dX11_odds_5 : decode kX11_odds.2.1 5 = .ok (.ifCond .eq 11, 3) := by decide +kernel
theorem dX11_odds_8 : decode kX11_odds.2.1 8 = .ok (.iload 4, 2) := by decide +kernel
theorem dX11_odds_10 : decode kX11_odds.2.1 10 = .ok (.invokestatic 128, 3) := by decide +kernel
theorem dX11_odds_13 : decode kX11_odds.2.1 13 = .ok (.ifCond .ne 7, 3) := by decide +kernel
theorem dX11_odds_16 : decode kX11_odds.2.1 16 = .ok (.ldc2_w 251, 3) := by decide +kernel
theorem dX11_odds_19 : decode kX11_odds.2.1 19 = .ok (.lreturn, 1) := by decide +kernel
theorem dX11_odds_20 : decode kX11_odds.2.1 20 = .ok (.aload_n 0, 1) := by decide +kernel
theorem dX11_odds_21 : decode kX11_odds.2.1 21 = .ok (.iload_n 1, 1) := by decide +kernel
theorem dX11_odds_22 : decode kX11_odds.2.1 22 = .ok (.iload_n 2, 1) := by decide +kernel
theorem dX11_odds_23 : decode kX11_odds.2.1 23 = .ok (.invokevirtual 288, 3) := by decide +kernel
theorem dX11_odds_26 : decode kX11_odds.2.1 26 = .ok (.istore 5, 2) := by decide +kernel
theorem dX11_odds_28 : decode kX11_odds.2.1 28 = .ok (.iload 5, 2) := by decide +kernel
theorem dX11_odds_30 : decode kX11_odds.2.1 30 = .ok (.ifCond .eq 7, 3) := by decide +kernel
theorem dX11_odds_33 : decode kX11_odds.2.1 33 = .ok (.iload 5, 2) := by decide +kernel
theorem dX11_odds_35 : decode kX11_odds.2.1 35 = .ok (.i2l, 1) := by decide +kernel
theorem dX11_odds_36 : decode kX11_odds.2.1 36 = .ok (.lreturn, 1) := by decide +kernel
theorem dX11_odds_37 : decode kX11_odds.2.1 37 = .ok (.lconst 0, 1) := by decide +kernel
theorem dX11_odds_38 : decode kX11_odds.2.1 38 = .ok (.lstore 6, 2) := by decide +kernel
theorem dX11_odds_40 : decode kX11_odds.2.1 40 = .ok (.lconst 0, 1) := by decide +kernel
theorem dX11_odds_41 : decode kX11_odds.2.1 41 = .ok (.lstore 8, 2) := by decide +kernel
theorem dX11_odds_43 : decode kX11_odds.2.1 43 = .ok (.iconst 0, 1) := by decide +kernel
theorem dX11_odds_44 : decode kX11_odds.2.1 44 = .ok (.istore 10, 2) := by decide +kernel
theorem dX11_odds_46 : decode kX11_odds.2.1 46 = .ok (.iload 10, 2) := by decide +kernel
theorem dX11_odds_48 : decode kX11_odds.2.1 48 = .ok (.aload_n 0, 1) := by decide +kernel
theorem dX11_odds_49 : decode kX11_odds.2.1 49 = .ok (.getfield 27, 3) := by decide +kernel
theorem dX11_odds_52 : decode kX11_odds.2.1 52 = .ok (.getfield 217, 3) := by decide +kernel
theorem dX11_odds_55 : decode kX11_odds.2.1 55 = .ok (.if_icmp .ge 36, 3) := by decide +kernel
theorem dX11_odds_58 : decode kX11_odds.2.1 58 = .ok (.aload_n 0, 1) := by decide +kernel
theorem dX11_odds_59 : decode kX11_odds.2.1 59 = .ok (.iload_n 1, 1) := by decide +kernel
theorem dX11_odds_60 : decode kX11_odds.2.1 60 = .ok (.iload 10, 2) := by decide +kernel
theorem dX11_odds_62 : decode kX11_odds.2.1 62 = .ok (.iload_n 2, 1) := by decide +kernel
theorem dX11_odds_63 : decode kX11_odds.2.1 63 = .ok (.invokevirtual 294, 3) := by decide +kernel
theorem dX11_odds_66 : decode kX11_odds.2.1 66 = .ok (.lstore 11, 2) := by decide +kernel
theorem dX11_odds_68 : decode kX11_odds.2.1 68 = .ok (.lload 6, 2) := by decide +kernel
theorem dX11_odds_70 : decode kX11_odds.2.1 70 = .ok (.lload 11, 2) := by decide +kernel
theorem dX11_odds_72 : decode kX11_odds.2.1 72 = .ok (.ladd, 1) := by decide +kernel
theorem dX11_odds_73 : decode kX11_odds.2.1 73 = .ok (.lstore 6, 2) := by decide +kernel
theorem dX11_odds_75 : decode kX11_odds.2.1 75 = .ok (.iload 10, 2) := by decide +kernel
theorem dX11_odds_77 : decode kX11_odds.2.1 77 = .ok (.iload_n 3, 1) := by decide +kernel
theorem dX11_odds_78 : decode kX11_odds.2.1 78 = .ok (.if_icmp .ne 7, 3) := by decide +kernel
theorem dX11_odds_81 : decode kX11_odds.2.1 81 = .ok (.lload 11, 2) := by decide +kernel
theorem dX11_odds_83 : decode kX11_odds.2.1 83 = .ok (.lstore 8, 2) := by decide +kernel
theorem dX11_odds_85 : decode kX11_odds.2.1 85 = .ok (.iinc 10 1, 3) := by decide +kernel
theorem dX11_odds_88 : decode kX11_odds.2.1 88 = .ok (.goto (-42), 3) := by decide +kernel
theorem dX11_odds_91 : decode kX11_odds.2.1 91 = .ok (.lload 6, 2) := by decide +kernel
theorem dX11_odds_93 : decode kX11_odds.2.1 93 = .ok (.lconst 0, 1) := by decide +kernel
theorem dX11_odds_94 : decode kX11_odds.2.1 94 = .ok (.lcmp, 1) := by decide +kernel
theorem dX11_odds_95 : decode kX11_odds.2.1 95 = .ok (.ifCond .ne 9, 3) := by decide +kernel
theorem dX11_odds_98 : decode kX11_odds.2.1 98 = .ok (.ldc2_w 298, 3) := by decide +kernel
theorem dX11_odds_101 : decode kX11_odds.2.1 101 = .ok (.goto 12, 3) := by decide +kernel
theorem dX11_odds_104 : decode kX11_odds.2.1 104 = .ok (.lload 8, 2) := by decide +kernel
theorem dX11_odds_106 : decode kX11_odds.2.1 106 = .ok (.lload 6, 2) := by decide +kernel
theorem dX11_odds_108 : decode kX11_odds.2.1 108 = .ok (.iload 4, 2) := by decide +kernel
theorem dX11_odds_110 : decode kX11_odds.2.1 110 = .ok (.invokestatic 236, 3) := by decide +kernel
theorem dX11_odds_113 : decode kX11_odds.2.1 113 = .ok (.lreturn, 1) := by decide +kernel
theorem dX11_tells_0 : decode kX11_tells.2.1 0 = .ok (.aload_n 0, 1) := by decide +kernel
theorem dX11_tells_1 : decode kX11_tells.2.1 1 = .ok (.iload_n 1, 1) := by decide +kernel
theorem dX11_tells_2 : decode kX11_tells.2.1 2 = .ok (.iload_n 2, 1) := by decide +kernel
theorem dX11_tells_3 : decode kX11_tells.2.1 3 = .ok (.invokevirtual 288, 3) := by decide +kernel
theorem dX11_tells_6 : decode kX11_tells.2.1 6 = .ok (.istore_n 3, 1) := by decide +kernel
theorem dX11_tells_7 : decode kX11_tells.2.1 7 = .ok (.iload_n 3, 1) := by decide +kernel
theorem dX11_tells_8 : decode kX11_tells.2.1 8 = .ok (.ifCond .eq 5, 3) := by decide +kernel
theorem dX11_tells_11 : decode kX11_tells.2.1 11 = .ok (.iload_n 3, 1) := by decide +kernel
theorem dX11_tells_12 : decode kX11_tells.2.1 12 = .ok (.ireturn, 1) := by decide +kernel
theorem dX11_tells_13 : decode kX11_tells.2.1 13 = .ok (.aload_n 0, 1) := by decide +kernel
theorem dX11_tells_14 : decode kX11_tells.2.1 14 = .ok (.iload_n 1, 1) := by decide +kernel
theorem dX11_tells_15 : decode kX11_tells.2.1 15 = .ok (.iload_n 2, 1) := by decide +kernel
theorem dX11_tells_16 : decode kX11_tells.2.1 16 = .ok (.invokevirtual 291, 3) := by decide +kernel
theorem dX11_tells_19 : decode kX11_tells.2.1 19 = .ok (.istore 4, 2) := by decide +kernel
theorem dX11_tells_21 : decode kX11_tells.2.1 21 = .ok (.iload 4, 2) := by decide +kernel
theorem dX11_tells_23 : decode kX11_tells.2.1 23 = .ok (.ifCond .ne 5, 3) := by decide +kernel
theorem dX11_tells_26 : decode kX11_tells.2.1 26 = .ok (.iconst (-1), 1) := by decide +kernel
theorem dX11_tells_27 : decode kX11_tells.2.1 27 = .ok (.ireturn, 1) := by decide +kernel
theorem dX11_tells_28 : decode kX11_tells.2.1 28 = .ok (.aload_n 0, 1) := by decide +kernel
theorem dX11_tells_29 : decode kX11_tells.2.1 29 = .ok (.invokevirtual 300, 3) := by decide +kernel
theorem dX11_tells_32 : decode kX11_tells.2.1 32 = .ok (.iconst 0, 1) := by decide +kernel
theorem dX11_tells_33 : decode kX11_tells.2.1 33 = .ok (.istore 5, 2) := by decide +kernel
theorem dX11_tells_35 : decode kX11_tells.2.1 35 = .ok (.aload_n 0, 1) := by decide +kernel
theorem dX11_tells_36 : decode kX11_tells.2.1 36 = .ok (.iload 4, 2) := by decide +kernel
theorem dX11_tells_38 : decode kX11_tells.2.1 38 = .ok (.iconst 0, 1) := by decide +kernel
theorem dX11_tells_39 : decode kX11_tells.2.1 39 = .ok (.invokevirtual 303, 3) := by decide +kernel
theorem dX11_tells_42 : decode kX11_tells.2.1 42 = .ok (.istore 6, 2) := by decide +kernel
theorem dX11_tells_44 : decode kX11_tells.2.1 44 = .ok (.iconst 1, 1) := by decide +kernel
theorem dX11_tells_45 : decode kX11_tells.2.1 45 = .ok (.istore 7, 2) := by decide +kernel
theorem dX11_tells_47 : decode kX11_tells.2.1 47 = .ok (.iload 7, 2) := by decide +kernel
theorem dX11_tells_49 : decode kX11_tells.2.1 49 = .ok (.bipush 21, 2) := by decide +kernel
theorem dX11_tells_51 : decode kX11_tells.2.1 51 = .ok (.if_icmp .ge 34, 3) := by decide +kernel
theorem dX11_tells_54 : decode kX11_tells.2.1 54 = .ok (.aload_n 0, 1) := by decide +kernel
theorem dX11_tells_55 : decode kX11_tells.2.1 55 = .ok (.iload 4, 2) := by decide +kernel
theorem dX11_tells_57 : decode kX11_tells.2.1 57 = .ok (.iload 7, 2) := by decide +kernel
theorem dX11_tells_59 : decode kX11_tells.2.1 59 = .ok (.invokevirtual 303, 3) := by decide +kernel
theorem dX11_tells_62 : decode kX11_tells.2.1 62 = .ok (.istore 8, 2) := by decide +kernel
theorem dX11_tells_64 : decode kX11_tells.2.1 64 = .ok (.iload 8, 2) := by decide +kernel
theorem dX11_tells_66 : decode kX11_tells.2.1 66 = .ok (.iload 6, 2) := by decide +kernel
theorem dX11_tells_68 : decode kX11_tells.2.1 68 = .ok (.if_icmp .ge 11, 3) := by decide +kernel
theorem dX11_tells_71 : decode kX11_tells.2.1 71 = .ok (.iload 7, 2) := by decide +kernel
theorem dX11_tells_73 : decode kX11_tells.2.1 73 = .ok (.istore 5, 2) := by decide +kernel
theorem dX11_tells_75 : decode kX11_tells.2.1 75 = .ok (.iload 8, 2) := by decide +kernel
theorem dX11_tells_77 : decode kX11_tells.2.1 77 = .ok (.istore 6, 2) := by decide +kernel
theorem dX11_tells_79 : decode kX11_tells.2.1 79 = .ok (.iinc 7 1, 3) := by decide +kernel
theorem dX11_tells_82 : decode kX11_tells.2.1 82 = .ok (.goto (-35), 3) := by decide +kernel
theorem dX11_tells_85 : decode kX11_tells.2.1 85 = .ok (.iload 5, 2) := by decide +kernel
theorem dX11_tells_87 : decode kX11_tells.2.1 87 = .ok (.ireturn, 1) := by decide +kernel
theorem dX11_winds_0 : decode kX11_winds.2.1 0 = .ok (.aload_n 0, 1) := by decide +kernel
theorem dX11_winds_1 : decode kX11_winds.2.1 1 = .ok (.iload_n 1, 1) := by decide +kernel
theorem dX11_winds_2 : decode kX11_winds.2.1 2 = .ok (.iload_n 2, 1) := by decide +kernel
theorem dX11_winds_3 : decode kX11_winds.2.1 3 = .ok (.iload_n 3, 1) := by decide +kernel
theorem dX11_winds_4 : decode kX11_winds.2.1 4 = .ok (.invokevirtual 306, 3) := by decide +kernel
theorem dX11_winds_7 : decode kX11_winds.2.1 7 = .ok (.istore 4, 2) := by decide +kernel
theorem dX11_winds_9 : decode kX11_winds.2.1 9 = .ok (.iload 4, 2) := by decide +kernel
theorem dX11_winds_11 : decode kX11_winds.2.1 11 = .ok (.ifCond .eq 8, 3) := by decide +kernel
theorem dX11_winds_14 : decode kX11_winds.2.1 14 = .ok (.iload 4, 2) := by decide +kernel
theorem dX11_winds_16 : decode kX11_winds.2.1 16 = .ok (.goto 10, 3) := by decide +kernel
theorem dX11_winds_19 : decode kX11_winds.2.1 19 = .ok (.aload_n 0, 1) := by decide +kernel
theorem dX11_winds_20 : decode kX11_winds.2.1 20 = .ok (.iload_n 1, 1) := by decide +kernel
theorem dX11_winds_21 : decode kX11_winds.2.1 21 = .ok (.iload_n 2, 1) := by decide +kernel
theorem dX11_winds_22 : decode kX11_winds.2.1 22 = .ok (.iload_n 3, 1) := by decide +kernel
theorem dX11_winds_23 : decode kX11_winds.2.1 23 = .ok (.invokevirtual 309, 3) := by decide +kernel
theorem dX11_winds_26 : decode kX11_winds.2.1 26 = .ok (.ireturn, 1) := by decide +kernel
theorem dX11_attempt_0 : decode kX11_attempt.2.1 0 = .ok (.aload_n 0, 1) := by decide +kernel
theorem dX11_attempt_1 : decode kX11_attempt.2.1 1 = .ok (.iload_n 1, 1) := by decide +kernel
theorem dX11_attempt_2 : decode kX11_attempt.2.1 2 = .ok (.iload_n 2, 1) := by decide +kernel
theorem dX11_attempt_3 : decode kX11_attempt.2.1 3 = .ok (.iload_n 3, 1) := by decide +kernel
theorem dX11_attempt_4 : decode kX11_attempt.2.1 4 = .ok (.invokevirtual 306, 3) := by decide +kernel
theorem dX11_attempt_7 : decode kX11_attempt.2.1 7 = .ok (.istore 4, 2) := by decide +kernel
theorem dX11_attempt_9 : decode kX11_attempt.2.1 9 = .ok (.iload 4, 2) := by decide +kernel
theorem dX11_attempt_11 : decode kX11_attempt.2.1 11 = .ok (.ifCond .eq 6, 3) := by decide +kernel
theorem dX11_attempt_14 : decode kX11_attempt.2.1 14 = .ok (.iload 4, 2) := by decide +kernel
theorem dX11_attempt_16 : decode kX11_attempt.2.1 16 = .ok (.ireturn, 1) := by decide +kernel
theorem dX11_attempt_17 : decode kX11_attempt.2.1 17 = .ok (.aload_n 0, 1) := by decide +kernel
theorem dX11_attempt_18 : decode kX11_attempt.2.1 18 = .ok (.iload_n 1, 1) := by decide +kernel
theorem dX11_attempt_19 : decode kX11_attempt.2.1 19 = .ok (.iload_n 2, 1) := by decide +kernel
theorem dX11_attempt_20 : decode kX11_attempt.2.1 20 = .ok (.iload_n 3, 1) := by decide +kernel
theorem dX11_attempt_21 : decode kX11_attempt.2.1 21 = .ok (.invokevirtual 309, 3) := by decide +kernel
theorem dX11_attempt_24 : decode kX11_attempt.2.1 24 = .ok (.istore 5, 2) := by decide +kernel
theorem dX11_attempt_26 : decode kX11_attempt.2.1 26 = .ok (.iload 5, 2) := by decide +kernel
theorem dX11_attempt_28 : decode kX11_attempt.2.1 28 = .ok (.ifCond .ne 5, 3) := by decide +kernel
theorem dX11_attempt_31 : decode kX11_attempt.2.1 31 = .ok (.iconst (-1), 1) := by decide +kernel
theorem dX11_attempt_32 : decode kX11_attempt.2.1 32 = .ok (.ireturn, 1) := by decide +kernel
theorem dX11_attempt_33 : decode kX11_attempt.2.1 33 = .ok (.iconst 0, 1) := by decide +kernel
theorem dX11_attempt_34 : decode kX11_attempt.2.1 34 = .ok (.istore 6, 2) := by decide +kernel
theorem dX11_attempt_36 : decode kX11_attempt.2.1 36 = .ok (.aload_n 0, 1) := by decide +kernel
theorem dX11_attempt_37 : decode kX11_attempt.2.1 37 = .ok (.iload 5, 2) := by decide +kernel
theorem dX11_attempt_39 : decode kX11_attempt.2.1 39 = .ok (.iload_n 2, 1) := by decide +kernel
theorem dX11_attempt_40 : decode kX11_attempt.2.1 40 = .ok (.iload_n 3, 1) := by decide +kernel
theorem dX11_attempt_41 : decode kX11_attempt.2.1 41 = .ok (.iconst 0, 1) := by decide +kernel
theorem dX11_attempt_42 : decode kX11_attempt.2.1 42 = .ok (.invokevirtual 312, 3) := by decide +kernel
theorem dX11_attempt_45 : decode kX11_attempt.2.1 45 = .ok (.istore 7, 2) := by decide +kernel
theorem dX11_attempt_47 : decode kX11_attempt.2.1 47 = .ok (.iconst 1, 1) := by decide +kernel
theorem dX11_attempt_48 : decode kX11_attempt.2.1 48 = .ok (.istore 8, 2) := by decide +kernel
theorem dX11_attempt_50 : decode kX11_attempt.2.1 50 = .ok (.iload 8, 2) := by decide +kernel
theorem dX11_attempt_52 : decode kX11_attempt.2.1 52 = .ok (.bipush 10, 2) := by decide +kernel
theorem dX11_attempt_54 : decode kX11_attempt.2.1 54 = .ok (.if_icmp .ge 36, 3) := by decide +kernel
theorem dX11_attempt_57 : decode kX11_attempt.2.1 57 = .ok (.aload_n 0, 1) := by decide +kernel
theorem dX11_attempt_58 : decode kX11_attempt.2.1 58 = .ok (.iload 5, 2) := by decide +kernel
theorem dX11_attempt_60 : decode kX11_attempt.2.1 60 = .ok (.iload_n 2, 1) := by decide +kernel
theorem dX11_attempt_61 : decode kX11_attempt.2.1 61 = .ok (.iload_n 3, 1) := by decide +kernel
theorem dX11_attempt_62 : decode kX11_attempt.2.1 62 = .ok (.iload 8, 2) := by decide +kernel
theorem dX11_attempt_64 : decode kX11_attempt.2.1 64 = .ok (.invokevirtual 312, 3) := by decide +kernel
theorem dX11_attempt_67 : decode kX11_attempt.2.1 67 = .ok (.istore 9, 2) := by decide +kernel
theorem dX11_attempt_69 : decode kX11_attempt.2.1 69 = .ok (.iload 9, 2) := by decide +kernel
theorem dX11_attempt_71 : decode kX11_attempt.2.1 71 = .ok (.iload 7, 2) := by decide +kernel
theorem dX11_attempt_73 : decode kX11_attempt.2.1 73 = .ok (.if_icmp .ge 11, 3) := by decide +kernel
theorem dX11_attempt_76 : decode kX11_attempt.2.1 76 = .ok (.iload 8, 2) := by decide +kernel
theorem dX11_attempt_78 : decode kX11_attempt.2.1 78 = .ok (.istore 6, 2) := by decide +kernel
theorem dX11_attempt_80 : decode kX11_attempt.2.1 80 = .ok (.iload 9, 2) := by decide +kernel
theorem dX11_attempt_82 : decode kX11_attempt.2.1 82 = .ok (.istore 7, 2) := by decide +kernel
theorem dX11_attempt_84 : decode kX11_attempt.2.1 84 = .ok (.iinc 8 1, 3) := by decide +kernel
theorem dX11_attempt_87 : decode kX11_attempt.2.1 87 = .ok (.goto (-37), 3) := by decide +kernel
theorem dX11_attempt_90 : decode kX11_attempt.2.1 90 = .ok (.iload 6, 2) := by decide +kernel
theorem dX11_attempt_92 : decode kX11_attempt.2.1 92 = .ok (.ireturn, 1) := by decide +kernel
theorem dX11_order_0 : decode kX11_order.2.1 0 = .ok (.aload_n 0, 1) := by decide +kernel
theorem dX11_order_1 : decode kX11_order.2.1 1 = .ok (.getfield 27, 3) := by decide +kernel
theorem dX11_order_4 : decode kX11_order.2.1 4 = .ok (.getfield 217, 3) := by decide +kernel
theorem dX11_order_7 : decode kX11_order.2.1 7 = .ok (.istore_n 2, 1) := by decide +kernel
theorem dX11_order_8 : decode kX11_order.2.1 8 = .ok (.iload_n 1, 1) := by decide +kernel
theorem dX11_order_9 : decode kX11_order.2.1 9 = .ok (.ifCond .eq 20, 3) := by decide +kernel
theorem dX11_order_12 : decode kX11_order.2.1 12 = .ok (.iload_n 1, 1) := by decide +kernel
theorem dX11_order_13 : decode kX11_order.2.1 13 = .ok (.bipush 10, 2) := by decide +kernel
theorem dX11_order_15 : decode kX11_order.2.1 15 = .ok (.if_icmp .lt 11, 3) := by decide +kernel
theorem dX11_order_18 : decode kX11_order.2.1 18 = .ok (.iload_n 1, 1) := by decide +kernel
theorem dX11_order_19 : decode kX11_order.2.1 19 = .ok (.bipush 10, 2) := by decide +kernel
theorem dX11_order_21 : decode kX11_order.2.1 21 = .ok (.iload_n 2, 1) := by decide +kernel
theorem dX11_order_22 : decode kX11_order.2.1 22 = .ok (.iadd, 1) := by decide +kernel
theorem dX11_order_23 : decode kX11_order.2.1 23 = .ok (.if_icmp .lt 6, 3) := by decide +kernel
theorem dX11_order_26 : decode kX11_order.2.1 26 = .ok (.ldc 141, 2) := by decide +kernel
theorem dX11_order_28 : decode kX11_order.2.1 28 = .ok (.ireturn, 1) := by decide +kernel
theorem dX11_order_29 : decode kX11_order.2.1 29 = .ok (.aload_n 0, 1) := by decide +kernel
theorem dX11_order_30 : decode kX11_order.2.1 30 = .ok (.iload_n 2, 1) := by decide +kernel
theorem dX11_order_31 : decode kX11_order.2.1 31 = .ok (.invokevirtual 316, 3) := by decide +kernel
theorem dX11_order_34 : decode kX11_order.2.1 34 = .ok (.aload_n 0, 1) := by decide +kernel
theorem dX11_order_35 : decode kX11_order.2.1 35 = .ok (.iload_n 2, 1) := by decide +kernel
theorem dX11_order_36 : decode kX11_order.2.1 36 = .ok (.invokevirtual 319, 3) := by decide +kernel
theorem dX11_order_39 : decode kX11_order.2.1 39 = .ok (.istore_n 3, 1) := by decide +kernel
theorem dX11_order_40 : decode kX11_order.2.1 40 = .ok (.iload_n 1, 1) := by decide +kernel
theorem dX11_order_41 : decode kX11_order.2.1 41 = .ok (.ifCond .ne 12, 3) := by decide +kernel
theorem dX11_order_44 : decode kX11_order.2.1 44 = .ok (.aload_n 0, 1) := by decide +kernel
theorem dX11_order_45 : decode kX11_order.2.1 45 = .ok (.iload_n 3, 1) := by decide +kernel
theorem dX11_order_46 : decode kX11_order.2.1 46 = .ok (.iload_n 2, 1) := by decide +kernel
theorem dX11_order_47 : decode kX11_order.2.1 47 = .ok (.invokevirtual 322, 3) := by decide +kernel
theorem dX11_order_50 : decode kX11_order.2.1 50 = .ok (.goto 12, 3) := by decide +kernel
theorem dX11_order_53 : decode kX11_order.2.1 53 = .ok (.iload_n 3, 1) := by decide +kernel
theorem dX11_order_54 : decode kX11_order.2.1 54 = .ok (.iload_n 2, 1) := by decide +kernel
theorem dX11_order_55 : decode kX11_order.2.1 55 = .ok (.iload_n 1, 1) := by decide +kernel
theorem dX11_order_56 : decode kX11_order.2.1 56 = .ok (.bipush 10, 2) := by decide +kernel
theorem dX11_order_58 : decode kX11_order.2.1 58 = .ok (.isub, 1) := by decide +kernel
theorem dX11_order_59 : decode kX11_order.2.1 59 = .ok (.invokestatic 325, 3) := by decide +kernel
theorem dX11_order_62 : decode kX11_order.2.1 62 = .ok (.ireturn, 1) := by decide +kernel
theorem dX11_expects_0 : decode kX11_expects.2.1 0 = .ok (.aload_n 0, 1) := by decide +kernel
theorem dX11_expects_1 : decode kX11_expects.2.1 1 = .ok (.iload_n 1, 1) := by decide +kernel
theorem dX11_expects_2 : decode kX11_expects.2.1 2 = .ok (.invokevirtual 124, 3) := by decide +kernel
theorem dX11_expects_5 : decode kX11_expects.2.1 5 = .ok (.ifCond .eq 11, 3) := by decide +kernel
theorem dX11_expects_8 : decode kX11_expects.2.1 8 = .ok (.iload_n 2, 1) := by decide +kernel
theorem dX11_expects_9 : decode kX11_expects.2.1 9 = .ok (.i2l, 1) := by decide +kernel
theorem dX11_expects_10 : decode kX11_expects.2.1 10 = .ok (.invokestatic 150, 3) := by decide +kernel
theorem dX11_expects_13 : decode kX11_expects.2.1 13 = .ok (.ifCond .ne 6, 3) := by decide +kernel
theorem dX11_expects_16 : decode kX11_expects.2.1 16 = .ok (.bipush (-2), 2) := by decide +kernel
theorem dX11_expects_18 : decode kX11_expects.2.1 18 = .ok (.ireturn, 1) := by decide +kernel
theorem dX11_expects_19 : decode kX11_expects.2.1 19 = .ok (.iload_n 3, 1) := by decide +kernel
theorem dX11_expects_20 : decode kX11_expects.2.1 20 = .ok (.ifCond .lt 10, 3) := by decide +kernel
theorem dX11_expects_23 : decode kX11_expects.2.1 23 = .ok (.iload_n 3, 1) := by decide +kernel
theorem dX11_expects_24 : decode kX11_expects.2.1 24 = .ok (.sipush 999, 3) := by decide +kernel
theorem dX11_expects_27 : decode kX11_expects.2.1 27 = .ok (.if_icmp .le 6, 3) := by decide +kernel
theorem dX11_expects_30 : decode kX11_expects.2.1 30 = .ok (.bipush (-3), 2) := by decide +kernel
theorem dX11_expects_32 : decode kX11_expects.2.1 32 = .ok (.ireturn, 1) := by decide +kernel
theorem dX11_expects_33 : decode kX11_expects.2.1 33 = .ok (.aload_n 0, 1) := by decide +kernel
theorem dX11_expects_34 : decode kX11_expects.2.1 34 = .ok (.iload_n 1, 1) := by decide +kernel
theorem dX11_expects_35 : decode kX11_expects.2.1 35 = .ok (.invokevirtual 220, 3) := by decide +kernel
theorem dX11_expects_38 : decode kX11_expects.2.1 38 = .ok (.astore 4, 2) := by decide +kernel
theorem dX11_expects_40 : decode kX11_expects.2.1 40 = .ok (.iload_n 2, 1) := by decide +kernel
theorem dX11_expects_41 : decode kX11_expects.2.1 41 = .ok (.istore 5, 2) := by decide +kernel
theorem dX11_expects_43 : decode kX11_expects.2.1 43 = .ok (.iconst 0, 1) := by decide +kernel
theorem dX11_expects_44 : decode kX11_expects.2.1 44 = .ok (.istore 6, 2) := by decide +kernel
theorem dX11_expects_46 : decode kX11_expects.2.1 46 = .ok (.iconst 2, 1) := by decide +kernel
theorem dX11_expects_47 : decode kX11_expects.2.1 47 = .ok (.istore 7, 2) := by decide +kernel
theorem dX11_expects_49 : decode kX11_expects.2.1 49 = .ok (.iload 7, 2) := by decide +kernel
theorem dX11_expects_51 : decode kX11_expects.2.1 51 = .ok (.iload_n 3, 1) := by decide +kernel
theorem dX11_expects_52 : decode kX11_expects.2.1 52 = .ok (.if_icmp .gt 42, 3) := by decide +kernel
theorem dX11_expects_55 : decode kX11_expects.2.1 55 = .ok (.iload 6, 2) := by decide +kernel
theorem dX11_expects_57 : decode kX11_expects.2.1 57 = .ok (.ifCond .ne 37, 3) := by decide +kernel
theorem dX11_expects_60 : decode kX11_expects.2.1 60 = .ok (.aload_n 0, 1) := by decide +kernel
theorem dX11_expects_61 : decode kX11_expects.2.1 61 = .ok (.aload 4, 2) := by decide +kernel
theorem dX11_expects_63 : decode kX11_expects.2.1 63 = .ok (.iload 5, 2) := by decide +kernel
theorem dX11_expects_65 : decode kX11_expects.2.1 65 = .ok (.invokevirtual 328, 3) := by decide +kernel
theorem dX11_expects_68 : decode kX11_expects.2.1 68 = .ok (.istore 8, 2) := by decide +kernel
theorem dX11_expects_70 : decode kX11_expects.2.1 70 = .ok (.iload 8, 2) := by decide +kernel
theorem dX11_expects_72 : decode kX11_expects.2.1 72 = .ok (.iload 5, 2) := by decide +kernel
theorem dX11_expects_74 : decode kX11_expects.2.1 74 = .ok (.if_icmp .ne 7, 3) := by decide +kernel
theorem dX11_expects_77 : decode kX11_expects.2.1 77 = .ok (.iconst 1, 1) := by decide +kernel
theorem dX11_expects_78 : decode kX11_expects.2.1 78 = .ok (.goto 4, 3) := by decide +kernel
theorem dX11_expects_81 : decode kX11_expects.2.1 81 = .ok (.iconst 0, 1) := by decide +kernel
theorem dX11_expects_82 : decode kX11_expects.2.1 82 = .ok (.istore 6, 2) := by decide +kernel
theorem dX11_expects_84 : decode kX11_expects.2.1 84 = .ok (.iload 8, 2) := by decide +kernel
theorem dX11_expects_86 : decode kX11_expects.2.1 86 = .ok (.istore 5, 2) := by decide +kernel
theorem dX11_expects_88 : decode kX11_expects.2.1 88 = .ok (.iinc 7 2, 3) := by decide +kernel
theorem dX11_expects_91 : decode kX11_expects.2.1 91 = .ok (.goto (-42), 3) := by decide +kernel
theorem dX11_expects_94 : decode kX11_expects.2.1 94 = .ok (.iload_n 3, 1) := by decide +kernel
theorem dX11_expects_95 : decode kX11_expects.2.1 95 = .ok (.iconst 1, 1) := by decide +kernel
theorem dX11_expects_96 : decode kX11_expects.2.1 96 = .ok (.iand, 1) := by decide +kernel
theorem dX11_expects_97 : decode kX11_expects.2.1 97 = .ok (.ifCond .ne 6, 3) := by decide +kernel
theorem dX11_expects_100 : decode kX11_expects.2.1 100 = .ok (.iload 5, 2) := by decide +kernel
theorem dX11_expects_102 : decode kX11_expects.2.1 102 = .ok (.ireturn, 1) := by decide +kernel
theorem dX11_expects_103 : decode kX11_expects.2.1 103 = .ok (.aload_n 0, 1) := by decide +kernel
theorem dX11_expects_104 : decode kX11_expects.2.1 104 = .ok (.aload 4, 2) := by decide +kernel
theorem dX11_expects_106 : decode kX11_expects.2.1 106 = .ok (.iload 5, 2) := by decide +kernel
theorem dX11_expects_108 : decode kX11_expects.2.1 108 = .ok (.invokevirtual 332, 3) := by decide +kernel
theorem dX11_expects_111 : decode kX11_expects.2.1 111 = .ok (.ifCond .eq 7, 3) := by decide +kernel
theorem dX11_expects_114 : decode kX11_expects.2.1 114 = .ok (.iconst 1, 1) := by decide +kernel
theorem dX11_expects_115 : decode kX11_expects.2.1 115 = .ok (.goto 4, 3) := by decide +kernel
theorem dX11_expects_118 : decode kX11_expects.2.1 118 = .ok (.iconst 0, 1) := by decide +kernel
theorem dX11_expects_119 : decode kX11_expects.2.1 119 = .ok (.ireturn, 1) := by decide +kernel
theorem dX11_rests_0 : decode kX11_rests.2.1 0 = .ok (.aload_n 0, 1) := by decide +kernel
theorem dX11_rests_1 : decode kX11_rests.2.1 1 = .ok (.iload_n 1, 1) := by decide +kernel
theorem dX11_rests_2 : decode kX11_rests.2.1 2 = .ok (.invokevirtual 124, 3) := by decide +kernel
theorem dX11_rests_5 : decode kX11_rests.2.1 5 = .ok (.ifCond .eq 11, 3) := by decide +kernel
theorem dX11_rests_8 : decode kX11_rests.2.1 8 = .ok (.iload_n 2, 1) := by decide +kernel
theorem dX11_rests_9 : decode kX11_rests.2.1 9 = .ok (.i2l, 1) := by decide +kernel
theorem dX11_rests_10 : decode kX11_rests.2.1 10 = .ok (.invokestatic 150, 3) := by decide +kernel
theorem dX11_rests_13 : decode kX11_rests.2.1 13 = .ok (.ifCond .ne 6, 3) := by decide +kernel
theorem dX11_rests_16 : decode kX11_rests.2.1 16 = .ok (.bipush (-2), 2) := by decide +kernel
theorem dX11_rests_18 : decode kX11_rests.2.1 18 = .ok (.ireturn, 1) := by decide +kernel
theorem dX11_rests_19 : decode kX11_rests.2.1 19 = .ok (.aload_n 0, 1) := by decide +kernel
theorem dX11_rests_20 : decode kX11_rests.2.1 20 = .ok (.iload_n 1, 1) := by decide +kernel
theorem dX11_rests_21 : decode kX11_rests.2.1 21 = .ok (.invokevirtual 220, 3) := by decide +kernel
theorem dX11_rests_24 : decode kX11_rests.2.1 24 = .ok (.astore_n 3, 1) := by decide +kernel
theorem dX11_rests_25 : decode kX11_rests.2.1 25 = .ok (.iload_n 2, 1) := by decide +kernel
theorem dX11_rests_26 : decode kX11_rests.2.1 26 = .ok (.istore 4, 2) := by decide +kernel
theorem dX11_rests_28 : decode kX11_rests.2.1 28 = .ok (.iconst 0, 1) := by decide +kernel
theorem dX11_rests_29 : decode kX11_rests.2.1 29 = .ok (.istore 5, 2) := by decide +kernel
theorem dX11_rests_31 : decode kX11_rests.2.1 31 = .ok (.iload 5, 2) := by decide +kernel
theorem dX11_rests_33 : decode kX11_rests.2.1 33 = .ok (.bipush 21, 2) := by decide +kernel
theorem dX11_rests_35 : decode kX11_rests.2.1 35 = .ok (.if_icmp .ge 18, 3) := by decide +kernel
theorem dX11_rests_38 : decode kX11_rests.2.1 38 = .ok (.aload_n 0, 1) := by decide +kernel
theorem dX11_rests_39 : decode kX11_rests.2.1 39 = .ok (.aload_n 3, 1) := by decide +kernel
theorem dX11_rests_40 : decode kX11_rests.2.1 40 = .ok (.iload 4, 2) := by decide +kernel
theorem dX11_rests_42 : decode kX11_rests.2.1 42 = .ok (.invokevirtual 328, 3) := by decide +kernel
theorem dX11_rests_45 : decode kX11_rests.2.1 45 = .ok (.istore 4, 2) := by decide +kernel
theorem dX11_rests_47 : decode kX11_rests.2.1 47 = .ok (.iinc 5 1, 3) := by decide +kernel
theorem dX11_rests_50 : decode kX11_rests.2.1 50 = .ok (.goto (-19), 3) := by decide +kernel
theorem dX11_rests_53 : decode kX11_rests.2.1 53 = .ok (.aload_n 0, 1) := by decide +kernel
theorem dX11_rests_54 : decode kX11_rests.2.1 54 = .ok (.aload_n 3, 1) := by decide +kernel
theorem dX11_rests_55 : decode kX11_rests.2.1 55 = .ok (.iload 4, 2) := by decide +kernel
theorem dX11_rests_57 : decode kX11_rests.2.1 57 = .ok (.invokevirtual 328, 3) := by decide +kernel
theorem dX11_rests_60 : decode kX11_rests.2.1 60 = .ok (.iload 4, 2) := by decide +kernel
theorem dX11_rests_62 : decode kX11_rests.2.1 62 = .ok (.if_icmp .ne 7, 3) := by decide +kernel
theorem dX11_rests_65 : decode kX11_rests.2.1 65 = .ok (.iconst 1, 1) := by decide +kernel
theorem dX11_rests_66 : decode kX11_rests.2.1 66 = .ok (.goto 4, 3) := by decide +kernel
theorem dX11_rests_69 : decode kX11_rests.2.1 69 = .ok (.iconst 0, 1) := by decide +kernel
theorem dX11_rests_70 : decode kX11_rests.2.1 70 = .ok (.ireturn, 1) := by decide +kernel
theorem dX11_guards_0 : decode kX11_guards.2.1 0 = .ok (.aload_n 0, 1) := by decide +kernel
theorem dX11_guards_1 : decode kX11_guards.2.1 1 = .ok (.iload_n 1, 1) := by decide +kernel
theorem dX11_guards_2 : decode kX11_guards.2.1 2 = .ok (.invokevirtual 124, 3) := by decide +kernel
theorem dX11_guards_5 : decode kX11_guards.2.1 5 = .ok (.ifCond .ne 6, 3) := by decide +kernel
theorem dX11_guards_8 : decode kX11_guards.2.1 8 = .ok (.bipush (-2), 2) := by decide +kernel
theorem dX11_guards_10 : decode kX11_guards.2.1 10 = .ok (.ireturn, 1) := by decide +kernel
theorem dX11_guards_11 : decode kX11_guards.2.1 11 = .ok (.aload_n 0, 1) := by decide +kernel
theorem dX11_guards_12 : decode kX11_guards.2.1 12 = .ok (.iload_n 1, 1) := by decide +kernel
theorem dX11_guards_13 : decode kX11_guards.2.1 13 = .ok (.invokevirtual 220, 3) := by decide +kernel
theorem dX11_guards_16 : decode kX11_guards.2.1 16 = .ok (.astore_n 2, 1) := by decide +kernel
theorem dX11_guards_17 : decode kX11_guards.2.1 17 = .ok (.iconst 0, 1) := by decide +kernel
theorem dX11_guards_18 : decode kX11_guards.2.1 18 = .ok (.istore_n 3, 1) := by decide +kernel
theorem dX11_guards_19 : decode kX11_guards.2.1 19 = .ok (.aload_n 2, 1) := by decide +kernel
theorem dX11_guards_20 : decode kX11_guards.2.1 20 = .ok (.iconst 0, 1) := by decide +kernel
theorem dX11_guards_21 : decode kX11_guards.2.1 21 = .ok (.aload_n 0, 1) := by decide +kernel
theorem dX11_guards_22 : decode kX11_guards.2.1 22 = .ok (.getfield 27, 3) := by decide +kernel
theorem dX11_guards_25 : decode kX11_guards.2.1 25 = .ok (.getfield 336, 3) := by decide +kernel
theorem dX11_guards_28 : decode kX11_guards.2.1 28 = .ok (.invokevirtual 339, 3) := by decide +kernel
theorem dX11_guards_31 : decode kX11_guards.2.1 31 = .ok (.istore 4, 2) := by decide +kernel
theorem dX11_guards_33 : decode kX11_guards.2.1 33 = .ok (.iconst 1, 1) := by decide +kernel
theorem dX11_guards_34 : decode kX11_guards.2.1 34 = .ok (.istore 5, 2) := by decide +kernel
theorem dX11_guards_36 : decode kX11_guards.2.1 36 = .ok (.iload 5, 2) := by decide +kernel
theorem dX11_guards_38 : decode kX11_guards.2.1 38 = .ok (.bipush 21, 2) := by decide +kernel
theorem dX11_guards_40 : decode kX11_guards.2.1 40 = .ok (.if_icmp .ge 38, 3) := by decide +kernel
theorem dX11_guards_43 : decode kX11_guards.2.1 43 = .ok (.aload_n 2, 1) := by decide +kernel
theorem dX11_guards_44 : decode kX11_guards.2.1 44 = .ok (.iload 5, 2) := by decide +kernel
theorem dX11_guards_46 : decode kX11_guards.2.1 46 = .ok (.aload_n 0, 1) := by decide +kernel
theorem dX11_guards_47 : decode kX11_guards.2.1 47 = .ok (.getfield 27, 3) := by decide +kernel
theorem dX11_guards_50 : decode kX11_guards.2.1 50 = .ok (.getfield 336, 3) := by decide +kernel
theorem dX11_guards_53 : decode kX11_guards.2.1 53 = .ok (.invokevirtual 339, 3) := by decide +kernel
theorem dX11_guards_56 : decode kX11_guards.2.1 56 = .ok (.istore 6, 2) := by decide +kernel
theorem dX11_guards_58 : decode kX11_guards.2.1 58 = .ok (.iload 6, 2) := by decide +kernel
theorem dX11_guards_60 : decode kX11_guards.2.1 60 = .ok (.iload 4, 2) := by decide +kernel
theorem dX11_guards_62 : decode kX11_guards.2.1 62 = .ok (.if_icmp .le 10, 3) := by decide +kernel
theorem dX11_guards_65 : decode kX11_guards.2.1 65 = .ok (.iload 5, 2) := by decide +kernel
theorem dX11_guards_67 : decode kX11_guards.2.1 67 = .ok (.istore_n 3, 1) := by decide +kernel
theorem dX11_guards_68 : decode kX11_guards.2.1 68 = .ok (.iload 6, 2) := by decide +kernel
theorem dX11_guards_70 : decode kX11_guards.2.1 70 = .ok (.istore 4, 2) := by decide +kernel
theorem dX11_guards_72 : decode kX11_guards.2.1 72 = .ok (.iinc 5 1, 3) := by decide +kernel
theorem dX11_guards_75 : decode kX11_guards.2.1 75 = .ok (.goto (-39), 3) := by decide +kernel
theorem dX11_guards_78 : decode kX11_guards.2.1 78 = .ok (.iload_n 3, 1) := by decide +kernel
theorem dX11_guards_79 : decode kX11_guards.2.1 79 = .ok (.ireturn, 1) := by decide +kernel
theorem dX11_numbers_0 : decode kX11_numbers.2.1 0 = .ok (.aload_n 0, 1) := by decide +kernel
theorem dX11_numbers_1 : decode kX11_numbers.2.1 1 = .ok (.iload_n 1, 1) := by decide +kernel
theorem dX11_numbers_2 : decode kX11_numbers.2.1 2 = .ok (.invokevirtual 194, 3) := by decide +kernel
theorem dX11_numbers_5 : decode kX11_numbers.2.1 5 = .ok (.ifCond .eq 12, 3) := by decide +kernel
theorem dX11_numbers_8 : decode kX11_numbers.2.1 8 = .ok (.iload_n 2, 1) := by decide +kernel
theorem dX11_numbers_9 : decode kX11_numbers.2.1 9 = .ok (.ifCond .lt 8, 3) := by decide +kernel
theorem dX11_numbers_12 : decode kX11_numbers.2.1 12 = .ok (.iload_n 2, 1) := by decide +kernel
theorem dX11_numbers_13 : decode kX11_numbers.2.1 13 = .ok (.iconst 3, 1) := by decide +kernel
theorem dX11_numbers_14 : decode kX11_numbers.2.1 14 = .ok (.if_icmp .le 6, 3) := by decide +kernel
theorem dX11_numbers_17 : decode kX11_numbers.2.1 17 = .ok (.bipush (-2), 2) := by decide +kernel
theorem dX11_numbers_19 : decode kX11_numbers.2.1 19 = .ok (.ireturn, 1) := by decide +kernel
theorem dX11_numbers_20 : decode kX11_numbers.2.1 20 = .ok (.iload_n 3, 1) := by decide +kernel
theorem dX11_numbers_21 : decode kX11_numbers.2.1 21 = .ok (.ifCond .lt 9, 3) := by decide +kernel
theorem dX11_numbers_24 : decode kX11_numbers.2.1 24 = .ok (.iload_n 3, 1) := by decide +kernel
theorem dX11_numbers_25 : decode kX11_numbers.2.1 25 = .ok (.bipush 40, 2) := by decide +kernel
theorem dX11_numbers_27 : decode kX11_numbers.2.1 27 = .ok (.if_icmp .le 6, 3) := by decide +kernel
theorem dX11_numbers_30 : decode kX11_numbers.2.1 30 = .ok (.bipush (-3), 2) := by decide +kernel
theorem dX11_numbers_32 : decode kX11_numbers.2.1 32 = .ok (.ireturn, 1) := by decide +kernel
theorem dX11_numbers_33 : decode kX11_numbers.2.1 33 = .ok (.aload_n 0, 1) := by decide +kernel
theorem dX11_numbers_34 : decode kX11_numbers.2.1 34 = .ok (.getfield 50, 3) := by decide +kernel
theorem dX11_numbers_37 : decode kX11_numbers.2.1 37 = .ok (.iload_n 1, 1) := by decide +kernel
theorem dX11_numbers_38 : decode kX11_numbers.2.1 38 = .ok (.aaload, 1) := by decide +kernel
theorem dX11_numbers_39 : decode kX11_numbers.2.1 39 = .ok (.iload_n 2, 1) := by decide +kernel
theorem dX11_numbers_40 : decode kX11_numbers.2.1 40 = .ok (.iload_n 3, 1) := by decide +kernel
theorem dX11_numbers_41 : decode kX11_numbers.2.1 41 = .ok (.invokevirtual 342, 3) := by decide +kernel
theorem dX11_numbers_44 : decode kX11_numbers.2.1 44 = .ok (.iconst 0, 1) := by decide +kernel
theorem dX11_numbers_45 : decode kX11_numbers.2.1 45 = .ok (.ireturn, 1) := by decide +kernel
theorem dX11_write_0 : decode kX11_write.2.1 0 = .ok (.aload_n 0, 1) := by decide +kernel
theorem dX11_write_1 : decode kX11_write.2.1 1 = .ok (.iload_n 1, 1) := by decide +kernel
theorem dX11_write_2 : decode kX11_write.2.1 2 = .ok (.invokevirtual 194, 3) := by decide +kernel
theorem dX11_write_5 : decode kX11_write.2.1 5 = .ok (.ifCond .ne 7, 3) := by decide +kernel
theorem dX11_write_8 : decode kX11_write.2.1 8 = .ok (.ldc2_w 251, 3) := by decide +kernel
theorem dX11_write_11 : decode kX11_write.2.1 11 = .ok (.lreturn, 1) := by decide +kernel
theorem dX11_write_12 : decode kX11_write.2.1 12 = .ok (.aload_n 0, 1) := by decide +kernel
theorem dX11_write_13 : decode kX11_write.2.1 13 = .ok (.getfield 50, 3) := by decide +kernel
theorem dX11_write_16 : decode kX11_write.2.1 16 = .ok (.iload_n 1, 1) := by decide +kernel
theorem dX11_write_17 : decode kX11_write.2.1 17 = .ok (.aaload, 1) := by decide +kernel
theorem dX11_write_18 : decode kX11_write.2.1 18 = .ok (.getfield 197, 3) := by decide +kernel
theorem dX11_write_21 : decode kX11_write.2.1 21 = .ok (.ifCond .ne 7, 3) := by decide +kernel
theorem dX11_write_24 : decode kX11_write.2.1 24 = .ok (.ldc2_w 344, 3) := by decide +kernel
theorem dX11_write_27 : decode kX11_write.2.1 27 = .ok (.lreturn, 1) := by decide +kernel
theorem dX11_write_28 : decode kX11_write.2.1 28 = .ok (.iload_n 2, 1) := by decide +kernel
theorem dX11_write_29 : decode kX11_write.2.1 29 = .ok (.ifCond .lt 16, 3) := by decide +kernel
theorem dX11_write_32 : decode kX11_write.2.1 32 = .ok (.iload_n 2, 1) := by decide +kernel
theorem dX11_write_33 : decode kX11_write.2.1 33 = .ok (.aload_n 0, 1) := by decide +kernel
theorem dX11_write_34 : decode kX11_write.2.1 34 = .ok (.getfield 50, 3) := by decide +kernel
theorem dX11_write_37 : decode kX11_write.2.1 37 = .ok (.iload_n 1, 1) := by decide +kernel
theorem dX11_write_38 : decode kX11_write.2.1 38 = .ok (.aaload, 1) := by decide +kernel
theorem dX11_write_39 : decode kX11_write.2.1 39 = .ok (.getfield 208, 3) := by decide +kernel
theorem dX11_write_42 : decode kX11_write.2.1 42 = .ok (.if_icmp .lt 7, 3) := by decide +kernel
theorem dX11_write_45 : decode kX11_write.2.1 45 = .ok (.ldc2_w 346, 3) := by decide +kernel
theorem dX11_write_48 : decode kX11_write.2.1 48 = .ok (.lreturn, 1) := by decide +kernel
theorem dX11_write_49 : decode kX11_write.2.1 49 = .ok (.aload_n 0, 1) := by decide +kernel
theorem dX11_write_50 : decode kX11_write.2.1 50 = .ok (.getfield 50, 3) := by decide +kernel
theorem dX11_write_53 : decode kX11_write.2.1 53 = .ok (.iload_n 1, 1) := by decide +kernel
theorem dX11_write_54 : decode kX11_write.2.1 54 = .ok (.aaload, 1) := by decide +kernel
theorem dX11_write_55 : decode kX11_write.2.1 55 = .ok (.iload_n 2, 1) := by decide +kernel
theorem dX11_write_56 : decode kX11_write.2.1 56 = .ok (.lload_n 3, 1) := by decide +kernel
theorem dX11_write_57 : decode kX11_write.2.1 57 = .ok (.invokevirtual 348, 3) := by decide +kernel
theorem dX11_write_60 : decode kX11_write.2.1 60 = .ok (.lreturn, 1) := by decide +kernel
theorem dX11_lists_0 : decode kX11_lists.2.1 0 = .ok (.aload_n 0, 1) := by decide +kernel
theorem dX11_lists_1 : decode kX11_lists.2.1 1 = .ok (.iload_n 1, 1) := by decide +kernel
theorem dX11_lists_2 : decode kX11_lists.2.1 2 = .ok (.invokevirtual 194, 3) := by decide +kernel
theorem dX11_lists_5 : decode kX11_lists.2.1 5 = .ok (.ifCond .eq 19, 3) := by decide +kernel
theorem dX11_lists_8 : decode kX11_lists.2.1 8 = .ok (.aload_n 0, 1) := by decide +kernel
theorem dX11_lists_9 : decode kX11_lists.2.1 9 = .ok (.iload_n 2, 1) := by decide +kernel
theorem dX11_lists_10 : decode kX11_lists.2.1 10 = .ok (.invokevirtual 124, 3) := by decide +kernel
theorem dX11_lists_13 : decode kX11_lists.2.1 13 = .ok (.ifCond .eq 11, 3) := by decide +kernel
theorem dX11_lists_16 : decode kX11_lists.2.1 16 = .ok (.iload_n 3, 1) := by decide +kernel
theorem dX11_lists_17 : decode kX11_lists.2.1 17 = .ok (.i2l, 1) := by decide +kernel
theorem dX11_lists_18 : decode kX11_lists.2.1 18 = .ok (.invokestatic 150, 3) := by decide +kernel
theorem dX11_lists_21 : decode kX11_lists.2.1 21 = .ok (.ifCond .ne 6, 3) := by decide +kernel
theorem dX11_lists_24 : decode kX11_lists.2.1 24 = .ok (.bipush (-2), 2) := by decide +kernel
theorem dX11_lists_26 : decode kX11_lists.2.1 26 = .ok (.ireturn, 1) := by decide +kernel
theorem dX11_lists_27 : decode kX11_lists.2.1 27 = .ok (.aload_n 0, 1) := by decide +kernel
theorem dX11_lists_28 : decode kX11_lists.2.1 28 = .ok (.getfield 50, 3) := by decide +kernel
theorem dX11_lists_31 : decode kX11_lists.2.1 31 = .ok (.iload_n 1, 1) := by decide +kernel
theorem dX11_lists_32 : decode kX11_lists.2.1 32 = .ok (.aaload, 1) := by decide +kernel
theorem dX11_lists_33 : decode kX11_lists.2.1 33 = .ok (.getfield 197, 3) := by decide +kernel
theorem dX11_lists_36 : decode kX11_lists.2.1 36 = .ok (.ifCond .ne 6, 3) := by decide +kernel
theorem dX11_lists_39 : decode kX11_lists.2.1 39 = .ok (.bipush (-6), 2) := by decide +kernel
theorem dX11_lists_41 : decode kX11_lists.2.1 41 = .ok (.ireturn, 1) := by decide +kernel
theorem dX11_lists_42 : decode kX11_lists.2.1 42 = .ok (.bipush 10, 2) := by decide +kernel
theorem dX11_lists_44 : decode kX11_lists.2.1 44 = .ok (.aload_n 0, 1) := by decide +kernel
theorem dX11_lists_45 : decode kX11_lists.2.1 45 = .ok (.getfield 50, 3) := by decide +kernel
theorem dX11_lists_48 : decode kX11_lists.2.1 48 = .ok (.iload_n 1, 1) := by decide +kernel
theorem dX11_lists_49 : decode kX11_lists.2.1 49 = .ok (.aaload, 1) := by decide +kernel
theorem dX11_lists_50 : decode kX11_lists.2.1 50 = .ok (.getfield 208, 3) := by decide +kernel
theorem dX11_lists_53 : decode kX11_lists.2.1 53 = .ok (.invokestatic 352, 3) := by decide +kernel
theorem dX11_lists_56 : decode kX11_lists.2.1 56 = .ok (.istore 4, 2) := by decide +kernel
theorem dX11_lists_58 : decode kX11_lists.2.1 58 = .ok (.iconst 0, 1) := by decide +kernel
theorem dX11_lists_59 : decode kX11_lists.2.1 59 = .ok (.istore 5, 2) := by decide +kernel
theorem dX11_lists_61 : decode kX11_lists.2.1 61 = .ok (.iload 5, 2) := by decide +kernel
theorem dX11_lists_63 : decode kX11_lists.2.1 63 = .ok (.iload 4, 2) := by decide +kernel
theorem dX11_lists_65 : decode kX11_lists.2.1 65 = .ok (.if_icmp .ge 30, 3) := by decide +kernel
theorem dX11_lists_68 : decode kX11_lists.2.1 68 = .ok (.aload_n 0, 1) := by decide +kernel
theorem dX11_lists_69 : decode kX11_lists.2.1 69 = .ok (.getfield 50, 3) := by decide +kernel
theorem dX11_lists_72 : decode kX11_lists.2.1 72 = .ok (.iload_n 1, 1) := by decide +kernel
theorem dX11_lists_73 : decode kX11_lists.2.1 73 = .ok (.aaload, 1) := by decide +kernel
theorem dX11_lists_74 : decode kX11_lists.2.1 74 = .ok (.iload 5, 2) := by decide +kernel
theorem dX11_lists_76 : decode kX11_lists.2.1 76 = .ok (.aload_n 0, 1) := by decide +kernel
theorem dX11_lists_77 : decode kX11_lists.2.1 77 = .ok (.iload_n 2, 1) := by decide +kernel
theorem dX11_lists_78 : decode kX11_lists.2.1 78 = .ok (.iload_n 3, 1) := by decide +kernel
theorem dX11_lists_79 : decode kX11_lists.2.1 79 = .ok (.iload 5, 2) := by decide +kernel
theorem dX11_lists_81 : decode kX11_lists.2.1 81 = .ok (.invokevirtual 146, 3) := by decide +kernel
theorem dX11_lists_84 : decode kX11_lists.2.1 84 = .ok (.i2l, 1) := by decide +kernel
theorem dX11_lists_85 : decode kX11_lists.2.1 85 = .ok (.invokevirtual 348, 3) := by decide +kernel
theorem dX11_lists_88 : decode kX11_lists.2.1 88 = .ok (.pop2, 1) := by decide +kernel
theorem dX11_lists_89 : decode kX11_lists.2.1 89 = .ok (.iinc 5 1, 3) := by decide +kernel
theorem dX11_lists_92 : decode kX11_lists.2.1 92 = .ok (.goto (-31), 3) := by decide +kernel
theorem dX11_lists_95 : decode kX11_lists.2.1 95 = .ok (.iload 4, 2) := by decide +kernel
theorem dX11_lists_97 : decode kX11_lists.2.1 97 = .ok (.ireturn, 1) := by decide +kernel
theorem dX11_image_0 : decode kX11_image.2.1 0 = .ok (.aload_n 0, 1) := by decide +kernel
theorem dX11_image_1 : decode kX11_image.2.1 1 = .ok (.iload_n 1, 1) := by decide +kernel
theorem dX11_image_2 : decode kX11_image.2.1 2 = .ok (.invokevirtual 357, 3) := by decide +kernel
theorem dX11_image_5 : decode kX11_image.2.1 5 = .ok (.ifCond .ne 6, 3) := by decide +kernel
theorem dX11_image_8 : decode kX11_image.2.1 8 = .ok (.bipush (-2), 2) := by decide +kernel
theorem dX11_image_10 : decode kX11_image.2.1 10 = .ok (.ireturn, 1) := by decide +kernel
theorem dX11_image_11 : decode kX11_image.2.1 11 = .ok (.aload_n 0, 1) := by decide +kernel
theorem dX11_image_12 : decode kX11_image.2.1 12 = .ok (.getfield 54, 3) := by decide +kernel
theorem dX11_image_15 : decode kX11_image.2.1 15 = .ok (.iload_n 1, 1) := by decide +kernel
theorem dX11_image_16 : decode kX11_image.2.1 16 = .ok (.aload_n 0, 1) := by decide +kernel
theorem dX11_image_17 : decode kX11_image.2.1 17 = .ok (.getfield 27, 3) := by decide +kernel
theorem dX11_image_20 : decode kX11_image.2.1 20 = .ok (.aastore, 1) := by decide +kernel
theorem dX11_image_21 : decode kX11_image.2.1 21 = .ok (.aload_n 0, 1) := by decide +kernel
theorem dX11_image_22 : decode kX11_image.2.1 22 = .ok (.getfield 58, 3) := by decide +kernel
theorem dX11_image_25 : decode kX11_image.2.1 25 = .ok (.iload_n 1, 1) := by decide +kernel
theorem dX11_image_26 : decode kX11_image.2.1 26 = .ok (.aaload, 1) := by decide +kernel
theorem dX11_image_27 : decode kX11_image.2.1 27 = .ok (.aload_n 0, 1) := by decide +kernel
theorem dX11_image_28 : decode kX11_image.2.1 28 = .ok (.getfield 34, 3) := by decide +kernel
theorem dX11_image_31 : decode kX11_image.2.1 31 = .ok (.invokevirtual 201, 3) := by decide +kernel
theorem dX11_image_34 : decode kX11_image.2.1 34 = .ok (.iconst 0, 1) := by decide +kernel
theorem dX11_image_35 : decode kX11_image.2.1 35 = .ok (.ireturn, 1) := by decide +kernel
theorem dX11_restore_0 : decode kX11_restore.2.1 0 = .ok (.aload_n 0, 1) := by decide +kernel
theorem dX11_restore_1 : decode kX11_restore.2.1 1 = .ok (.iload_n 1, 1) := by decide +kernel
theorem dX11_restore_2 : decode kX11_restore.2.1 2 = .ok (.invokevirtual 357, 3) := by decide +kernel
theorem dX11_restore_5 : decode kX11_restore.2.1 5 = .ok (.ifCond .ne 6, 3) := by decide +kernel
theorem dX11_restore_8 : decode kX11_restore.2.1 8 = .ok (.bipush (-2), 2) := by decide +kernel
theorem dX11_restore_10 : decode kX11_restore.2.1 10 = .ok (.ireturn, 1) := by decide +kernel
theorem dX11_restore_11 : decode kX11_restore.2.1 11 = .ok (.aload_n 0, 1) := by decide +kernel
theorem dX11_restore_12 : decode kX11_restore.2.1 12 = .ok (.getfield 54, 3) := by decide +kernel
theorem dX11_restore_15 : decode kX11_restore.2.1 15 = .ok (.iload_n 1, 1) := by decide +kernel
theorem dX11_restore_16 : decode kX11_restore.2.1 16 = .ok (.aaload, 1) := by decide +kernel
theorem dX11_restore_17 : decode kX11_restore.2.1 17 = .ok (.astore_n 2, 1) := by decide +kernel
theorem dX11_restore_18 : decode kX11_restore.2.1 18 = .ok (.aload_n 2, 1) := by decide +kernel
theorem dX11_restore_19 : decode kX11_restore.2.1 19 = .ok (.ifnonnull 6, 3) := by decide +kernel
theorem dX11_restore_22 : decode kX11_restore.2.1 22 = .ok (.bipush (-5), 2) := by decide +kernel
theorem dX11_restore_24 : decode kX11_restore.2.1 24 = .ok (.ireturn, 1) := by decide +kernel
theorem dX11_restore_25 : decode kX11_restore.2.1 25 = .ok (.aload_n 0, 1) := by decide +kernel
theorem dX11_restore_26 : decode kX11_restore.2.1 26 = .ok (.aload_n 2, 1) := by decide +kernel
theorem dX11_restore_27 : decode kX11_restore.2.1 27 = .ok (.putfield 27, 3) := by decide +kernel
theorem dX11_restore_30 : decode kX11_restore.2.1 30 = .ok (.aload_n 0, 1) := by decide +kernel
theorem dX11_restore_31 : decode kX11_restore.2.1 31 = .ok (.getfield 34, 3) := by decide +kernel
theorem dX11_restore_34 : decode kX11_restore.2.1 34 = .ok (.aload_n 0, 1) := by decide +kernel
theorem dX11_restore_35 : decode kX11_restore.2.1 35 = .ok (.getfield 58, 3) := by decide +kernel
theorem dX11_restore_38 : decode kX11_restore.2.1 38 = .ok (.iload_n 1, 1) := by decide +kernel
theorem dX11_restore_39 : decode kX11_restore.2.1 39 = .ok (.aaload, 1) := by decide +kernel
theorem dX11_restore_40 : decode kX11_restore.2.1 40 = .ok (.invokevirtual 201, 3) := by decide +kernel
theorem dX11_restore_43 : decode kX11_restore.2.1 43 = .ok (.aload_n 0, 1) := by decide +kernel
theorem dX11_restore_44 : decode kX11_restore.2.1 44 = .ok (.getfield 44, 3) := by decide +kernel
theorem dX11_restore_47 : decode kX11_restore.2.1 47 = .ok (.invokevirtual 115, 3) := by decide +kernel
theorem dX11_restore_50 : decode kX11_restore.2.1 50 = .ok (.iconst 0, 1) := by decide +kernel
theorem dX11_restore_51 : decode kX11_restore.2.1 51 = .ok (.ireturn, 1) := by decide +kernel
theorem dX11_count_0 : decode kX11_count.2.1 0 = .ok (.iload_n 1, 1) := by decide +kernel
theorem dX11_count_1 : decode kX11_count.2.1 1 = .ok (.tableswitch 156 0 11 #[63, 71, 79, 87, 95, 103, 111, 119, 127, 135, 143, 148], 63) := by decide +kernel
theorem dX11_count_64 : decode kX11_count.2.1 64 = .ok (.aload_n 0, 1) := by decide +kernel
theorem dX11_count_65 : decode kX11_count.2.1 65 = .ok (.getfield 27, 3) := by decide +kernel
theorem dX11_count_68 : decode kX11_count.2.1 68 = .ok (.getfield 360, 3) := by decide +kernel
theorem dX11_count_71 : decode kX11_count.2.1 71 = .ok (.ireturn, 1) := by decide +kernel
theorem dX11_count_72 : decode kX11_count.2.1 72 = .ok (.aload_n 0, 1) := by decide +kernel
theorem dX11_count_73 : decode kX11_count.2.1 73 = .ok (.getfield 27, 3) := by decide +kernel
theorem dX11_count_76 : decode kX11_count.2.1 76 = .ok (.getfield 363, 3) := by decide +kernel
theorem dX11_count_79 : decode kX11_count.2.1 79 = .ok (.ireturn, 1) := by decide +kernel
theorem dX11_count_80 : decode kX11_count.2.1 80 = .ok (.aload_n 0, 1) := by decide +kernel
theorem dX11_count_81 : decode kX11_count.2.1 81 = .ok (.getfield 27, 3) := by decide +kernel
theorem dX11_count_84 : decode kX11_count.2.1 84 = .ok (.getfield 217, 3) := by decide +kernel
theorem dX11_count_87 : decode kX11_count.2.1 87 = .ok (.ireturn, 1) := by decide +kernel
theorem dX11_count_88 : decode kX11_count.2.1 88 = .ok (.aload_n 0, 1) := by decide +kernel
theorem dX11_count_89 : decode kX11_count.2.1 89 = .ok (.getfield 27, 3) := by decide +kernel
theorem dX11_count_92 : decode kX11_count.2.1 92 = .ok (.getfield 366, 3) := by decide +kernel
theorem dX11_count_95 : decode kX11_count.2.1 95 = .ok (.ireturn, 1) := by decide +kernel
theorem dX11_count_96 : decode kX11_count.2.1 96 = .ok (.aload_n 0, 1) := by decide +kernel
theorem dX11_count_97 : decode kX11_count.2.1 97 = .ok (.getfield 27, 3) := by decide +kernel
theorem dX11_count_100 : decode kX11_count.2.1 100 = .ok (.getfield 369, 3) := by decide +kernel
theorem dX11_count_103 : decode kX11_count.2.1 103 = .ok (.ireturn, 1) := by decide +kernel
theorem dX11_count_104 : decode kX11_count.2.1 104 = .ok (.aload_n 0, 1) := by decide +kernel
theorem dX11_count_105 : decode kX11_count.2.1 105 = .ok (.getfield 27, 3) := by decide +kernel
theorem dX11_count_108 : decode kX11_count.2.1 108 = .ok (.getfield 336, 3) := by decide +kernel
theorem dX11_count_111 : decode kX11_count.2.1 111 = .ok (.ireturn, 1) := by decide +kernel
theorem dX11_count_112 : decode kX11_count.2.1 112 = .ok (.aload_n 0, 1) := by decide +kernel
theorem dX11_count_113 : decode kX11_count.2.1 113 = .ok (.getfield 34, 3) := by decide +kernel
theorem dX11_count_116 : decode kX11_count.2.1 116 = .ok (.getfield 186, 3) := by decide +kernel
theorem dX11_count_119 : decode kX11_count.2.1 119 = .ok (.ireturn, 1) := by decide +kernel
theorem dX11_count_120 : decode kX11_count.2.1 120 = .ok (.aload_n 0, 1) := by decide +kernel
theorem dX11_count_121 : decode kX11_count.2.1 121 = .ok (.getfield 34, 3) := by decide +kernel
theorem dX11_count_124 : decode kX11_count.2.1 124 = .ok (.getfield 177, 3) := by decide +kernel
theorem dX11_count_127 : decode kX11_count.2.1 127 = .ok (.ireturn, 1) := by decide +kernel
theorem dX11_count_128 : decode kX11_count.2.1 128 = .ok (.aload_n 0, 1) := by decide +kernel
theorem dX11_count_129 : decode kX11_count.2.1 129 = .ok (.getfield 34, 3) := by decide +kernel
theorem dX11_count_132 : decode kX11_count.2.1 132 = .ok (.getfield 180, 3) := by decide +kernel
theorem dX11_count_135 : decode kX11_count.2.1 135 = .ok (.ireturn, 1) := by decide +kernel
theorem dX11_count_136 : decode kX11_count.2.1 136 = .ok (.aload_n 0, 1) := by decide +kernel
theorem dX11_count_137 : decode kX11_count.2.1 137 = .ok (.getfield 44, 3) := by decide +kernel
theorem dX11_count_140 : decode kX11_count.2.1 140 = .ok (.getfield 187, 3) := by decide +kernel
theorem dX11_count_143 : decode kX11_count.2.1 143 = .ok (.ireturn, 1) := by decide +kernel
theorem dX11_count_144 : decode kX11_count.2.1 144 = .ok (.aload_n 0, 1) := by decide +kernel
theorem dX11_count_145 : decode kX11_count.2.1 145 = .ok (.getfield 13, 3) := by decide +kernel
theorem dX11_count_148 : decode kX11_count.2.1 148 = .ok (.ireturn, 1) := by decide +kernel
theorem dX11_count_149 : decode kX11_count.2.1 149 = .ok (.aload_n 0, 1) := by decide +kernel
theorem dX11_count_150 : decode kX11_count.2.1 150 = .ok (.getfield 27, 3) := by decide +kernel
theorem dX11_count_153 : decode kX11_count.2.1 153 = .ok (.getfield 118, 3) := by decide +kernel
theorem dX11_count_156 : decode kX11_count.2.1 156 = .ok (.ireturn, 1) := by decide +kernel
theorem dX11_count_157 : decode kX11_count.2.1 157 = .ok (.iconst (-1), 1) := by decide +kernel
theorem dX11_count_158 : decode kX11_count.2.1 158 = .ok (.ireturn, 1) := by decide +kernel
theorem dX11_isShooter_0 : decode kX11_isShooter.2.1 0 = .ok (.iload_n 1, 1) := by decide +kernel
theorem dX11_isShooter_1 : decode kX11_isShooter.2.1 1 = .ok (.ifCond .lt 23, 3) := by decide +kernel
theorem dX11_isShooter_4 : decode kX11_isShooter.2.1 4 = .ok (.iload_n 1, 1) := by decide +kernel
theorem dX11_isShooter_5 : decode kX11_isShooter.2.1 5 = .ok (.aload_n 0, 1) := by decide +kernel
theorem dX11_isShooter_6 : decode kX11_isShooter.2.1 6 = .ok (.getfield 27, 3) := by decide +kernel
theorem dX11_isShooter_9 : decode kX11_isShooter.2.1 9 = .ok (.getfield 217, 3) := by decide +kernel
theorem dX11_isShooter_12 : decode kX11_isShooter.2.1 12 = .ok (.if_icmp .ge 12, 3) := by decide +kernel
theorem dX11_isShooter_15 : decode kX11_isShooter.2.1 15 = .ok (.iload_n 1, 1) := by decide +kernel
theorem dX11_isShooter_16 : decode kX11_isShooter.2.1 16 = .ok (.iconst 4, 1) := by decide +kernel
theorem dX11_isShooter_17 : decode kX11_isShooter.2.1 17 = .ok (.if_icmp .ge 7, 3) := by decide +kernel
theorem dX11_isShooter_20 : decode kX11_isShooter.2.1 20 = .ok (.iconst 1, 1) := by decide +kernel
theorem dX11_isShooter_21 : decode kX11_isShooter.2.1 21 = .ok (.goto 4, 3) := by decide +kernel
theorem dX11_isShooter_24 : decode kX11_isShooter.2.1 24 = .ok (.iconst 0, 1) := by decide +kernel
theorem dX11_isShooter_25 : decode kX11_isShooter.2.1 25 = .ok (.ireturn, 1) := by decide +kernel
theorem dX11_isPlace_0 : decode kX11_isPlace.2.1 0 = .ok (.lload_n 0, 1) := by decide +kernel
theorem dX11_isPlace_1 : decode kX11_isPlace.2.1 1 = .ok (.lconst 0, 1) := by decide +kernel
theorem dX11_isPlace_2 : decode kX11_isPlace.2.1 2 = .ok (.lcmp, 1) := by decide +kernel
theorem dX11_isPlace_3 : decode kX11_isPlace.2.1 3 = .ok (.ifCond .lt 15, 3) := by decide +kernel
theorem dX11_isPlace_6 : decode kX11_isPlace.2.1 6 = .ok (.lload_n 0, 1) := by decide +kernel
theorem dX11_isPlace_7 : decode kX11_isPlace.2.1 7 = .ok (.ldc2_w 372, 3) := by decide +kernel
theorem dX11_isPlace_10 : decode kX11_isPlace.2.1 10 = .ok (.lcmp, 1) := by decide +kernel
theorem dX11_isPlace_11 : decode kX11_isPlace.2.1 11 = .ok (.ifCond .ge 7, 3) := by decide +kernel
theorem dX11_isPlace_14 : decode kX11_isPlace.2.1 14 = .ok (.iconst 1, 1) := by decide +kernel
theorem dX11_isPlace_15 : decode kX11_isPlace.2.1 15 = .ok (.goto 4, 3) := by decide +kernel
theorem dX11_isPlace_18 : decode kX11_isPlace.2.1 18 = .ok (.iconst 0, 1) := by decide +kernel
theorem dX11_isPlace_19 : decode kX11_isPlace.2.1 19 = .ok (.ireturn, 1) := by decide +kernel
theorem dX11_isLot_0 : decode kX11_isLot.2.1 0 = .ok (.lload_n 0, 1) := by decide +kernel
theorem dX11_isLot_1 : decode kX11_isLot.2.1 1 = .ok (.lconst 0, 1) := by decide +kernel
theorem dX11_isLot_2 : decode kX11_isLot.2.1 2 = .ok (.lcmp, 1) := by decide +kernel
theorem dX11_isLot_3 : decode kX11_isLot.2.1 3 = .ok (.ifCond .lt 15, 3) := by decide +kernel
theorem dX11_isLot_6 : decode kX11_isLot.2.1 6 = .ok (.lload_n 0, 1) := by decide +kernel
theorem dX11_isLot_7 : decode kX11_isLot.2.1 7 = .ok (.ldc2_w 234, 3) := by decide +kernel
theorem dX11_isLot_10 : decode kX11_isLot.2.1 10 = .ok (.lcmp, 1) := by decide +kernel
theorem dX11_isLot_11 : decode kX11_isLot.2.1 11 = .ok (.ifCond .ge 7, 3) := by decide +kernel
theorem dX11_isLot_14 : decode kX11_isLot.2.1 14 = .ok (.iconst 1, 1) := by decide +kernel
theorem dX11_isLot_15 : decode kX11_isLot.2.1 15 = .ok (.goto 4, 3) := by decide +kernel
theorem dX11_isLot_18 : decode kX11_isLot.2.1 18 = .ok (.iconst 0, 1) := by decide +kernel
theorem dX11_isLot_19 : decode kX11_isLot.2.1 19 = .ok (.ireturn, 1) := by decide +kernel
theorem dX11_isWind_0 : decode kX11_isWind.2.1 0 = .ok (.iload_n 0, 1) := by decide +kernel
theorem dX11_isWind_1 : decode kX11_isWind.2.1 1 = .ok (.ifCond .lt 13, 3) := by decide +kernel
theorem dX11_isWind_4 : decode kX11_isWind.2.1 4 = .ok (.iload_n 0, 1) := by decide +kernel
theorem dX11_isWind_5 : decode kX11_isWind.2.1 5 = .ok (.bipush 10, 2) := by decide +kernel
theorem dX11_isWind_7 : decode kX11_isWind.2.1 7 = .ok (.if_icmp .ge 7, 3) := by decide +kernel
theorem dX11_isWind_10 : decode kX11_isWind.2.1 10 = .ok (.iconst 1, 1) := by decide +kernel
theorem dX11_isWind_11 : decode kX11_isWind.2.1 11 = .ok (.goto 4, 3) := by decide +kernel
theorem dX11_isWind_14 : decode kX11_isWind.2.1 14 = .ok (.iconst 0, 1) := by decide +kernel
theorem dX11_isWind_15 : decode kX11_isWind.2.1 15 = .ok (.ireturn, 1) := by decide +kernel
theorem dX11_isHalf_0 : decode kX11_isHalf.2.1 0 = .ok (.iload_n 0, 1) := by decide +kernel
theorem dX11_isHalf_1 : decode kX11_isHalf.2.1 1 = .ok (.ifCond .eq 8, 3) := by decide +kernel
theorem dX11_isHalf_4 : decode kX11_isHalf.2.1 4 = .ok (.iload_n 0, 1) := by decide +kernel
theorem dX11_isHalf_5 : decode kX11_isHalf.2.1 5 = .ok (.iconst 1, 1) := by decide +kernel
theorem dX11_isHalf_6 : decode kX11_isHalf.2.1 6 = .ok (.if_icmp .ne 7, 3) := by decide +kernel
theorem dX11_isHalf_9 : decode kX11_isHalf.2.1 9 = .ok (.iconst 1, 1) := by decide +kernel
theorem dX11_isHalf_10 : decode kX11_isHalf.2.1 10 = .ok (.goto 4, 3) := by decide +kernel
theorem dX11_isHalf_13 : decode kX11_isHalf.2.1 13 = .ok (.iconst 0, 1) := by decide +kernel
theorem dX11_isHalf_14 : decode kX11_isHalf.2.1 14 = .ok (.ireturn, 1) := by decide +kernel
theorem dX11_isShot_0 : decode kX11_isShot.2.1 0 = .ok (.aload_n 0, 1) := by decide +kernel
theorem dX11_isShot_1 : decode kX11_isShot.2.1 1 = .ok (.iload_n 1, 1) := by decide +kernel
theorem dX11_isShot_2 : decode kX11_isShot.2.1 2 = .ok (.invokevirtual 124, 3) := by decide +kernel
theorem dX11_isShot_5 : decode kX11_isShot.2.1 5 = .ok (.ifCond .eq 23, 3) := by decide +kernel
theorem dX11_isShot_8 : decode kX11_isShot.2.1 8 = .ok (.iload_n 2, 1) := by decide +kernel
theorem dX11_isShot_9 : decode kX11_isShot.2.1 9 = .ok (.i2l, 1) := by decide +kernel
theorem dX11_isShot_10 : decode kX11_isShot.2.1 10 = .ok (.invokestatic 150, 3) := by decide +kernel
theorem dX11_isShot_13 : decode kX11_isShot.2.1 13 = .ok (.ifCond .eq 15, 3) := by decide +kernel
theorem dX11_isShot_16 : decode kX11_isShot.2.1 16 = .ok (.iload_n 3, 1) := by decide +kernel
theorem dX11_isShot_17 : decode kX11_isShot.2.1 17 = .ok (.i2l, 1) := by decide +kernel
theorem dX11_isShot_18 : decode kX11_isShot.2.1 18 = .ok (.invokestatic 374, 3) := by decide +kernel
theorem dX11_isShot_21 : decode kX11_isShot.2.1 21 = .ok (.ifCond .eq 7, 3) := by decide +kernel
theorem dX11_isShot_24 : decode kX11_isShot.2.1 24 = .ok (.iconst 1, 1) := by decide +kernel
theorem dX11_isShot_25 : decode kX11_isShot.2.1 25 = .ok (.goto 4, 3) := by decide +kernel
theorem dX11_isShot_28 : decode kX11_isShot.2.1 28 = .ok (.iconst 0, 1) := by decide +kernel
theorem dX11_isShot_29 : decode kX11_isShot.2.1 29 = .ok (.ireturn, 1) := by decide +kernel
theorem dX11_isTray_0 : decode kX11_isTray.2.1 0 = .ok (.iload_n 1, 1) := by decide +kernel
theorem dX11_isTray_1 : decode kX11_isTray.2.1 1 = .ok (.ifCond .lt 16, 3) := by decide +kernel
theorem dX11_isTray_4 : decode kX11_isTray.2.1 4 = .ok (.iload_n 1, 1) := by decide +kernel
theorem dX11_isTray_5 : decode kX11_isTray.2.1 5 = .ok (.aload_n 0, 1) := by decide +kernel
theorem dX11_isTray_6 : decode kX11_isTray.2.1 6 = .ok (.getfield 50, 3) := by decide +kernel
theorem dX11_isTray_9 : decode kX11_isTray.2.1 9 = .ok (.arraylength, 1) := by decide +kernel
theorem dX11_isTray_10 : decode kX11_isTray.2.1 10 = .ok (.if_icmp .ge 7, 3) := by decide +kernel
theorem dX11_isTray_13 : decode kX11_isTray.2.1 13 = .ok (.iconst 1, 1) := by decide +kernel
theorem dX11_isTray_14 : decode kX11_isTray.2.1 14 = .ok (.goto 4, 3) := by decide +kernel
theorem dX11_isTray_17 : decode kX11_isTray.2.1 17 = .ok (.iconst 0, 1) := by decide +kernel
theorem dX11_isTray_18 : decode kX11_isTray.2.1 18 = .ok (.ireturn, 1) := by decide +kernel
theorem dX11_isImage_0 : decode kX11_isImage.2.1 0 = .ok (.iload_n 1, 1) := by decide +kernel
theorem dX11_isImage_1 : decode kX11_isImage.2.1 1 = .ok (.ifCond .lt 12, 3) := by decide +kernel
theorem dX11_isImage_4 : decode kX11_isImage.2.1 4 = .ok (.iload_n 1, 1) := by decide +kernel
theorem dX11_isImage_5 : decode kX11_isImage.2.1 5 = .ok (.iconst 2, 1) := by decide +kernel
theorem dX11_isImage_6 : decode kX11_isImage.2.1 6 = .ok (.if_icmp .ge 7, 3) := by decide +kernel
theorem dX11_isImage_9 : decode kX11_isImage.2.1 9 = .ok (.iconst 1, 1) := by decide +kernel
theorem dX11_isImage_10 : decode kX11_isImage.2.1 10 = .ok (.goto 4, 3) := by decide +kernel
theorem dX11_isImage_13 : decode kX11_isImage.2.1 13 = .ok (.iconst 0, 1) := by decide +kernel
theorem dX11_isImage_14 : decode kX11_isImage.2.1 14 = .ok (.ireturn, 1) := by decide +kernel
theorem dX11_putOnTape_0 : decode kX11_putOnTape.2.1 0 = .ok (.bipush 24, 2) := by decide +kernel
theorem dX11_putOnTape_2 : decode kX11_putOnTape.2.1 2 = .ok (.istore_n 2, 1) := by decide +kernel
theorem dX11_putOnTape_3 : decode kX11_putOnTape.2.1 3 = .ok (.iload_n 2, 1) := by decide +kernel
theorem dX11_putOnTape_4 : decode kX11_putOnTape.2.1 4 = .ok (.ifCond .lt 44, 3) := by decide +kernel
theorem dX11_putOnTape_7 : decode kX11_putOnTape.2.1 7 = .ok (.aload_n 0, 1) := by decide +kernel
theorem dX11_putOnTape_8 : decode kX11_putOnTape.2.1 8 = .ok (.getfield 13, 3) := by decide +kernel
theorem dX11_putOnTape_11 : decode kX11_putOnTape.2.1 11 = .ok (.aload_n 0, 1) := by decide +kernel
theorem dX11_putOnTape_12 : decode kX11_putOnTape.2.1 12 = .ok (.getfield 9, 3) := by decide +kernel
theorem dX11_putOnTape_15 : decode kX11_putOnTape.2.1 15 = .ok (.arraylength, 1) := by decide +kernel
theorem dX11_putOnTape_16 : decode kX11_putOnTape.2.1 16 = .ok (.if_icmp .ge 32, 3) := by decide +kernel
theorem dX11_putOnTape_19 : decode kX11_putOnTape.2.1 19 = .ok (.aload_n 0, 1) := by decide +kernel
theorem dX11_putOnTape_20 : decode kX11_putOnTape.2.1 20 = .ok (.getfield 9, 3) := by decide +kernel
theorem dX11_putOnTape_23 : decode kX11_putOnTape.2.1 23 = .ok (.aload_n 0, 1) := by decide +kernel
theorem dX11_putOnTape_24 : decode kX11_putOnTape.2.1 24 = .ok (.getfield 13, 3) := by decide +kernel
theorem dX11_putOnTape_27 : decode kX11_putOnTape.2.1 27 = .ok (.iload_n 1, 1) := by decide +kernel
theorem dX11_putOnTape_28 : decode kX11_putOnTape.2.1 28 = .ok (.iload_n 2, 1) := by decide +kernel
theorem dX11_putOnTape_29 : decode kX11_putOnTape.2.1 29 = .ok (.iushr, 1) := by decide +kernel
theorem dX11_putOnTape_30 : decode kX11_putOnTape.2.1 30 = .ok (.i2b, 1) := by decide +kernel
theorem dX11_putOnTape_31 : decode kX11_putOnTape.2.1 31 = .ok (.bastore, 1) := by decide +kernel
theorem dX11_putOnTape_32 : decode kX11_putOnTape.2.1 32 = .ok (.aload_n 0, 1) := by decide +kernel
theorem dX11_putOnTape_33 : decode kX11_putOnTape.2.1 33 = .ok (.dup, 1) := by decide +kernel
theorem dX11_putOnTape_34 : decode kX11_putOnTape.2.1 34 = .ok (.getfield 13, 3) := by decide +kernel
theorem dX11_putOnTape_37 : decode kX11_putOnTape.2.1 37 = .ok (.iconst 1, 1) := by decide +kernel
theorem dX11_putOnTape_38 : decode kX11_putOnTape.2.1 38 = .ok (.iadd, 1) := by decide +kernel
theorem dX11_putOnTape_39 : decode kX11_putOnTape.2.1 39 = .ok (.putfield 13, 3) := by decide +kernel
theorem dX11_putOnTape_42 : decode kX11_putOnTape.2.1 42 = .ok (.iinc 2 (-8), 3) := by decide +kernel
theorem dX11_putOnTape_45 : decode kX11_putOnTape.2.1 45 = .ok (.goto (-42), 3) := by decide +kernel
theorem dX11_putOnTape_48 : decode kX11_putOnTape.2.1 48 = .ok (.return_, 1) := by decide +kernel
theorem dX11_isOpenIn_0 : decode kX11_isOpenIn.2.1 0 = .ok (.aload_n 0, 1) := by decide +kernel
theorem dX11_isOpenIn_1 : decode kX11_isOpenIn.2.1 1 = .ok (.getfield 65, 3) := by decide +kernel
theorem dX11_isOpenIn_4 : decode kX11_isOpenIn.2.1 4 = .ok (.aload_n 0, 1) := by decide +kernel
theorem dX11_isOpenIn_5 : decode kX11_isOpenIn.2.1 5 = .ok (.getfield 27, 3) := by decide +kernel
theorem dX11_isOpenIn_8 : decode kX11_isOpenIn.2.1 8 = .ok (.aload_n 0, 1) := by decide +kernel
theorem dX11_isOpenIn_9 : decode kX11_isOpenIn.2.1 9 = .ok (.getfield 34, 3) := by decide +kernel
theorem dX11_isOpenIn_12 : decode kX11_isOpenIn.2.1 12 = .ok (.getfield 177, 3) := by decide +kernel
theorem dX11_isOpenIn_15 : decode kX11_isOpenIn.2.1 15 = .ok (.iload_n 1, 1) := by decide +kernel
theorem dX11_isOpenIn_16 : decode kX11_isOpenIn.2.1 16 = .ok (.iadd, 1) := by decide +kernel
theorem dX11_isOpenIn_17 : decode kX11_isOpenIn.2.1 17 = .ok (.aload_n 0, 1) := by decide +kernel
theorem dX11_isOpenIn_18 : decode kX11_isOpenIn.2.1 18 = .ok (.getfield 34, 3) := by decide +kernel
theorem dX11_isOpenIn_21 : decode kX11_isOpenIn.2.1 21 = .ok (.getfield 180, 3) := by decide +kernel
theorem dX11_isOpenIn_24 : decode kX11_isOpenIn.2.1 24 = .ok (.aload_n 0, 1) := by decide +kernel
theorem dX11_isOpenIn_25 : decode kX11_isOpenIn.2.1 25 = .ok (.getfield 34, 3) := by decide +kernel
theorem dX11_isOpenIn_28 : decode kX11_isOpenIn.2.1 28 = .ok (.getfield 186, 3) := by decide +kernel
theorem dX11_isOpenIn_31 : decode kX11_isOpenIn.2.1 31 = .ok (.invokevirtual 377, 3) := by decide +kernel
theorem dX11_isOpenIn_34 : decode kX11_isOpenIn.2.1 34 = .ok (.ireturn, 1) := by decide +kernel
theorem dX11_isOpenNow_0 : decode kX11_isOpenNow.2.1 0 = .ok (.aload_n 0, 1) := by decide +kernel
theorem dX11_isOpenNow_1 : decode kX11_isOpenNow.2.1 1 = .ok (.iconst 0, 1) := by decide +kernel
theorem dX11_isOpenNow_2 : decode kX11_isOpenNow.2.1 2 = .ok (.invokevirtual 165, 3) := by decide +kernel
theorem dX11_isOpenNow_5 : decode kX11_isOpenNow.2.1 5 = .ok (.ireturn, 1) := by decide +kernel
theorem dX11_costNow_0 : decode kX11_costNow.2.1 0 = .ok (.aload_n 0, 1) := by decide +kernel
theorem dX11_costNow_1 : decode kX11_costNow.2.1 1 = .ok (.invokevirtual 157, 3) := by decide +kernel
theorem dX11_costNow_4 : decode kX11_costNow.2.1 4 = .ok (.ifCond .eq 13, 3) := by decide +kernel
theorem dX11_costNow_7 : decode kX11_costNow.2.1 7 = .ok (.aload_n 0, 1) := by decide +kernel
theorem dX11_costNow_8 : decode kX11_costNow.2.1 8 = .ok (.getfield 27, 3) := by decide +kernel
theorem dX11_costNow_11 : decode kX11_costNow.2.1 11 = .ok (.getfield 336, 3) := by decide +kernel
theorem dX11_costNow_14 : decode kX11_costNow.2.1 14 = .ok (.goto 4, 3) := by decide +kernel
theorem dX11_costNow_17 : decode kX11_costNow.2.1 17 = .ok (.iconst 0, 1) := by decide +kernel
theorem dX11_costNow_18 : decode kX11_costNow.2.1 18 = .ok (.ireturn, 1) := by decide +kernel
theorem dX11_landingNow_0 : decode kX11_landingNow.2.1 0 = .ok (.aload_n 0, 1) := by decide +kernel
theorem dX11_landingNow_1 : decode kX11_landingNow.2.1 1 = .ok (.getfield 65, 3) := by decide +kernel
theorem dX11_landingNow_4 : decode kX11_landingNow.2.1 4 = .ok (.aload_n 0, 1) := by decide +kernel
theorem dX11_landingNow_5 : decode kX11_landingNow.2.1 5 = .ok (.getfield 27, 3) := by decide +kernel
theorem dX11_landingNow_8 : decode kX11_landingNow.2.1 8 = .ok (.aload_n 0, 1) := by decide +kernel
theorem dX11_landingNow_9 : decode kX11_landingNow.2.1 9 = .ok (.getfield 27, 3) := by decide +kernel
theorem dX11_landingNow_12 : decode kX11_landingNow.2.1 12 = .ok (.iload_n 1, 1) := by decide +kernel
theorem dX11_landingNow_13 : decode kX11_landingNow.2.1 13 = .ok (.invokevirtual 131, 3) := by decide +kernel
theorem dX11_landingNow_16 : decode kX11_landingNow.2.1 16 = .ok (.aload_n 0, 1) := by decide +kernel
theorem dX11_landingNow_17 : decode kX11_landingNow.2.1 17 = .ok (.getfield 34, 3) := by decide +kernel
theorem dX11_landingNow_20 : decode kX11_landingNow.2.1 20 = .ok (.iload_n 1, 1) := by decide +kernel
theorem dX11_landingNow_21 : decode kX11_landingNow.2.1 21 = .ok (.invokevirtual 135, 3) := by decide +kernel
theorem dX11_landingNow_24 : decode kX11_landingNow.2.1 24 = .ok (.aload_n 0, 1) := by decide +kernel
theorem dX11_landingNow_25 : decode kX11_landingNow.2.1 25 = .ok (.getfield 34, 3) := by decide +kernel
theorem dX11_landingNow_28 : decode kX11_landingNow.2.1 28 = .ok (.getfield 186, 3) := by decide +kernel
theorem dX11_landingNow_31 : decode kX11_landingNow.2.1 31 = .ok (.iload_n 2, 1) := by decide +kernel
theorem dX11_landingNow_32 : decode kX11_landingNow.2.1 32 = .ok (.iload_n 3, 1) := by decide +kernel
theorem dX11_landingNow_33 : decode kX11_landingNow.2.1 33 = .ok (.invokevirtual 381, 3) := by decide +kernel
theorem dX11_landingNow_36 : decode kX11_landingNow.2.1 36 = .ok (.ireturn, 1) := by decide +kernel
theorem dX11_tableNow_0 : decode kX11_tableNow.2.1 0 = .ok (.aload_n 0, 1) := by decide +kernel
theorem dX11_tableNow_1 : decode kX11_tableNow.2.1 1 = .ok (.getfield 71, 3) := by decide +kernel
theorem dX11_tableNow_4 : decode kX11_tableNow.2.1 4 = .ok (.iconst 0, 1) := by decide +kernel
theorem dX11_tableNow_5 : decode kX11_tableNow.2.1 5 = .ok (.aaload, 1) := by decide +kernel
theorem dX11_tableNow_6 : decode kX11_tableNow.2.1 6 = .ok (.astore_n 2, 1) := by decide +kernel
theorem dX11_tableNow_7 : decode kX11_tableNow.2.1 7 = .ok (.aload_n 2, 1) := by decide +kernel
theorem dX11_tableNow_8 : decode kX11_tableNow.2.1 8 = .ok (.aload_n 0, 1) := by decide +kernel
theorem dX11_tableNow_9 : decode kX11_tableNow.2.1 9 = .ok (.getfield 65, 3) := by decide +kernel
theorem dX11_tableNow_12 : decode kX11_tableNow.2.1 12 = .ok (.aload_n 0, 1) := by decide +kernel
theorem dX11_tableNow_13 : decode kX11_tableNow.2.1 13 = .ok (.getfield 27, 3) := by decide +kernel
theorem dX11_tableNow_16 : decode kX11_tableNow.2.1 16 = .ok (.aload_n 0, 1) := by decide +kernel
theorem dX11_tableNow_17 : decode kX11_tableNow.2.1 17 = .ok (.getfield 27, 3) := by decide +kernel
theorem dX11_tableNow_20 : decode kX11_tableNow.2.1 20 = .ok (.iload_n 1, 1) := by decide +kernel
theorem dX11_tableNow_21 : decode kX11_tableNow.2.1 21 = .ok (.invokevirtual 131, 3) := by decide +kernel
theorem dX11_tableNow_24 : decode kX11_tableNow.2.1 24 = .ok (.aload_n 0, 1) := by decide +kernel
theorem dX11_tableNow_25 : decode kX11_tableNow.2.1 25 = .ok (.getfield 34, 3) := by decide +kernel
theorem dX11_tableNow_28 : decode kX11_tableNow.2.1 28 = .ok (.iload_n 1, 1) := by decide +kernel
theorem dX11_tableNow_29 : decode kX11_tableNow.2.1 29 = .ok (.invokevirtual 135, 3) := by decide +kernel
theorem dX11_tableNow_32 : decode kX11_tableNow.2.1 32 = .ok (.aload_n 0, 1) := by decide +kernel
theorem dX11_tableNow_33 : decode kX11_tableNow.2.1 33 = .ok (.getfield 34, 3) := by decide +kernel
theorem dX11_tableNow_36 : decode kX11_tableNow.2.1 36 = .ok (.getfield 186, 3) := by decide +kernel
theorem dX11_tableNow_39 : decode kX11_tableNow.2.1 39 = .ok (.invokevirtual 247, 3) := by decide +kernel
theorem dX11_tableNow_42 : decode kX11_tableNow.2.1 42 = .ok (.aload_n 2, 1) := by decide +kernel
theorem dX11_tableNow_43 : decode kX11_tableNow.2.1 43 = .ok (.areturn, 1) := by decide +kernel
theorem dX11_fillAllTables_0 : decode kX11_fillAllTables.2.1 0 = .ok (.iconst 0, 1) := by decide +kernel
theorem dX11_fillAllTables_1 : decode kX11_fillAllTables.2.1 1 = .ok (.istore_n 1, 1) := by decide +kernel
theorem dX11_fillAllTables_2 : decode kX11_fillAllTables.2.1 2 = .ok (.iload_n 1, 1) := by decide +kernel
theorem dX11_fillAllTables_3 : decode kX11_fillAllTables.2.1 3 = .ok (.aload_n 0, 1) := by decide +kernel
theorem dX11_fillAllTables_4 : decode kX11_fillAllTables.2.1 4 = .ok (.getfield 27, 3) := by decide +kernel
theorem dX11_fillAllTables_7 : decode kX11_fillAllTables.2.1 7 = .ok (.getfield 217, 3) := by decide +kernel
theorem dX11_fillAllTables_10 : decode kX11_fillAllTables.2.1 10 = .ok (.if_icmp .ge 58, 3) := by decide +kernel
theorem dX11_fillAllTables_13 : decode kX11_fillAllTables.2.1 13 = .ok (.iload_n 1, 1) := by decide +kernel
theorem dX11_fillAllTables_14 : decode kX11_fillAllTables.2.1 14 = .ok (.aload_n 0, 1) := by decide +kernel
theorem dX11_fillAllTables_15 : decode kX11_fillAllTables.2.1 15 = .ok (.getfield 71, 3) := by decide +kernel
theorem dX11_fillAllTables_18 : decode kX11_fillAllTables.2.1 18 = .ok (.arraylength, 1) := by decide +kernel
theorem dX11_fillAllTables_19 : decode kX11_fillAllTables.2.1 19 = .ok (.if_icmp .ge 49, 3) := by decide +kernel
theorem dX11_fillAllTables_22 : decode kX11_fillAllTables.2.1 22 = .ok (.aload_n 0, 1) := by decide +kernel
theorem dX11_fillAllTables_23 : decode kX11_fillAllTables.2.1 23 = .ok (.getfield 71, 3) := by decide +kernel
theorem dX11_fillAllTables_26 : decode kX11_fillAllTables.2.1 26 = .ok (.iload_n 1, 1) := by decide +kernel
theorem dX11_fillAllTables_27 : decode kX11_fillAllTables.2.1 27 = .ok (.aaload, 1) := by decide +kernel
theorem dX11_fillAllTables_28 : decode kX11_fillAllTables.2.1 28 = .ok (.aload_n 0, 1) := by decide +kernel
theorem dX11_fillAllTables_29 : decode kX11_fillAllTables.2.1 29 = .ok (.getfield 65, 3) := by decide +kernel
theorem dX11_fillAllTables_32 : decode kX11_fillAllTables.2.1 32 = .ok (.aload_n 0, 1) := by decide +kernel
theorem dX11_fillAllTables_33 : decode kX11_fillAllTables.2.1 33 = .ok (.getfield 27, 3) := by decide +kernel
theorem dX11_fillAllTables_36 : decode kX11_fillAllTables.2.1 36 = .ok (.aload_n 0, 1) := by decide +kernel
theorem dX11_fillAllTables_37 : decode kX11_fillAllTables.2.1 37 = .ok (.getfield 27, 3) := by decide +kernel
theorem dX11_fillAllTables_40 : decode kX11_fillAllTables.2.1 40 = .ok (.iload_n 1, 1) := by decide +kernel
theorem dX11_fillAllTables_41 : decode kX11_fillAllTables.2.1 41 = .ok (.invokevirtual 131, 3) := by decide +kernel
theorem dX11_fillAllTables_44 : decode kX11_fillAllTables.2.1 44 = .ok (.aload_n 0, 1) := by decide +kernel
theorem dX11_fillAllTables_45 : decode kX11_fillAllTables.2.1 45 = .ok (.getfield 34, 3) := by decide +kernel
theorem dX11_fillAllTables_48 : decode kX11_fillAllTables.2.1 48 = .ok (.iload_n 1, 1) := by decide +kernel
theorem dX11_fillAllTables_49 : decode kX11_fillAllTables.2.1 49 = .ok (.invokevirtual 135, 3) := by decide +kernel
theorem dX11_fillAllTables_52 : decode kX11_fillAllTables.2.1 52 = .ok (.aload_n 0, 1) := by decide +kernel
theorem dX11_fillAllTables_53 : decode kX11_fillAllTables.2.1 53 = .ok (.getfield 34, 3) := by decide +kernel
theorem dX11_fillAllTables_56 : decode kX11_fillAllTables.2.1 56 = .ok (.getfield 186, 3) := by decide +kernel
theorem dX11_fillAllTables_59 : decode kX11_fillAllTables.2.1 59 = .ok (.invokevirtual 247, 3) := by decide +kernel
theorem dX11_fillAllTables_62 : decode kX11_fillAllTables.2.1 62 = .ok (.iinc 1 1, 3) := by decide +kernel
theorem dX11_fillAllTables_65 : decode kX11_fillAllTables.2.1 65 = .ok (.goto (-63), 3) := by decide +kernel
theorem dX11_fillAllTables_68 : decode kX11_fillAllTables.2.1 68 = .ok (.return_, 1) := by decide +kernel
theorem dX11_takeShot_0 : decode kX11_takeShot.2.1 0 = .ok (.aload_n 0, 1) := by decide +kernel
theorem dX11_takeShot_1 : decode kX11_takeShot.2.1 1 = .ok (.getfield 65, 3) := by decide +kernel
theorem dX11_takeShot_4 : decode kX11_takeShot.2.1 4 = .ok (.aload_n 0, 1) := by decide +kernel
theorem dX11_takeShot_5 : decode kX11_takeShot.2.1 5 = .ok (.getfield 27, 3) := by decide +kernel
theorem dX11_takeShot_8 : decode kX11_takeShot.2.1 8 = .ok (.aload_n 0, 1) := by decide +kernel
theorem dX11_takeShot_9 : decode kX11_takeShot.2.1 9 = .ok (.getfield 27, 3) := by decide +kernel
theorem dX11_takeShot_12 : decode kX11_takeShot.2.1 12 = .ok (.iload_n 2, 1) := by decide +kernel
theorem dX11_takeShot_13 : decode kX11_takeShot.2.1 13 = .ok (.invokevirtual 131, 3) := by decide +kernel
theorem dX11_takeShot_16 : decode kX11_takeShot.2.1 16 = .ok (.aload_n 1, 1) := by decide +kernel
theorem dX11_takeShot_17 : decode kX11_takeShot.2.1 17 = .ok (.iload_n 2, 1) := by decide +kernel
theorem dX11_takeShot_18 : decode kX11_takeShot.2.1 18 = .ok (.invokevirtual 135, 3) := by decide +kernel
theorem dX11_takeShot_21 : decode kX11_takeShot.2.1 21 = .ok (.aload_n 1, 1) := by decide +kernel
theorem dX11_takeShot_22 : decode kX11_takeShot.2.1 22 = .ok (.getfield 186, 3) := by decide +kernel
theorem dX11_takeShot_25 : decode kX11_takeShot.2.1 25 = .ok (.iload_n 3, 1) := by decide +kernel
theorem dX11_takeShot_26 : decode kX11_takeShot.2.1 26 = .ok (.iload 4, 2) := by decide +kernel
theorem dX11_takeShot_28 : decode kX11_takeShot.2.1 28 = .ok (.invokevirtual 381, 3) := by decide +kernel
theorem dX11_takeShot_31 : decode kX11_takeShot.2.1 31 = .ok (.istore 5, 2) := by decide +kernel
theorem dX11_takeShot_33 : decode kX11_takeShot.2.1 33 = .ok (.aload_n 0, 1) := by decide +kernel
theorem dX11_takeShot_34 : decode kX11_takeShot.2.1 34 = .ok (.getfield 65, 3) := by decide +kernel
theorem dX11_takeShot_37 : decode kX11_takeShot.2.1 37 = .ok (.aload_n 0, 1) := by decide +kernel
theorem dX11_takeShot_38 : decode kX11_takeShot.2.1 38 = .ok (.getfield 27, 3) := by decide +kernel
theorem dX11_takeShot_41 : decode kX11_takeShot.2.1 41 = .ok (.aload_n 1, 1) := by decide +kernel
theorem dX11_takeShot_42 : decode kX11_takeShot.2.1 42 = .ok (.getfield 177, 3) := by decide +kernel
theorem dX11_takeShot_45 : decode kX11_takeShot.2.1 45 = .ok (.aload_n 1, 1) := by decide +kernel
theorem dX11_takeShot_46 : decode kX11_takeShot.2.1 46 = .ok (.getfield 180, 3) := by decide +kernel
theorem dX11_takeShot_49 : decode kX11_takeShot.2.1 49 = .ok (.aload_n 1, 1) := by decide +kernel
theorem dX11_takeShot_50 : decode kX11_takeShot.2.1 50 = .ok (.getfield 186, 3) := by decide +kernel
theorem dX11_takeShot_53 : decode kX11_takeShot.2.1 53 = .ok (.invokevirtual 377, 3) := by decide +kernel
theorem dX11_takeShot_56 : decode kX11_takeShot.2.1 56 = .ok (.istore 6, 2) := by decide +kernel
theorem dX11_takeShot_58 : decode kX11_takeShot.2.1 58 = .ok (.aload_n 0, 1) := by decide +kernel
theorem dX11_takeShot_59 : decode kX11_takeShot.2.1 59 = .ok (.getfield 27, 3) := by decide +kernel
theorem dX11_takeShot_62 : decode kX11_takeShot.2.1 62 = .ok (.iload 5, 2) := by decide +kernel
theorem dX11_takeShot_64 : decode kX11_takeShot.2.1 64 = .ok (.iload 6, 2) := by decide +kernel
theorem dX11_takeShot_66 : decode kX11_takeShot.2.1 66 = .ok (.invokevirtual 161, 3) := by decide +kernel
theorem dX11_takeShot_69 : decode kX11_takeShot.2.1 69 = .ok (.istore 7, 2) := by decide +kernel
theorem dX11_takeShot_71 : decode kX11_takeShot.2.1 71 = .ok (.aload_n 1, 1) := by decide +kernel
theorem dX11_takeShot_72 : decode kX11_takeShot.2.1 72 = .ok (.iload_n 2, 1) := by decide +kernel
theorem dX11_takeShot_73 : decode kX11_takeShot.2.1 73 = .ok (.iload 7, 2) := by decide +kernel
theorem dX11_takeShot_75 : decode kX11_takeShot.2.1 75 = .ok (.invokevirtual 385, 3) := by decide +kernel
theorem dX11_takeShot_78 : decode kX11_takeShot.2.1 78 = .ok (.iload 6, 2) := by decide +kernel
theorem dX11_takeShot_80 : decode kX11_takeShot.2.1 80 = .ok (.ifCond .eq 25, 3) := by decide +kernel
theorem dX11_takeShot_83 : decode kX11_takeShot.2.1 83 = .ok (.aload_n 0, 1) := by decide +kernel
theorem dX11_takeShot_84 : decode kX11_takeShot.2.1 84 = .ok (.getfield 27, 3) := by decide +kernel
theorem dX11_takeShot_87 : decode kX11_takeShot.2.1 87 = .ok (.iload 5, 2) := by decide +kernel
theorem dX11_takeShot_89 : decode kX11_takeShot.2.1 89 = .ok (.invokevirtual 154, 3) := by decide +kernel
theorem dX11_takeShot_92 : decode kX11_takeShot.2.1 92 = .ok (.ifCond .ne 13, 3) := by decide +kernel
theorem dX11_takeShot_95 : decode kX11_takeShot.2.1 95 = .ok (.aload_n 1, 1) := by decide +kernel
theorem dX11_takeShot_96 : decode kX11_takeShot.2.1 96 = .ok (.dup, 1) := by decide +kernel
theorem dX11_takeShot_97 : decode kX11_takeShot.2.1 97 = .ok (.getfield 180, 3) := by decide +kernel
theorem dX11_takeShot_100 : decode kX11_takeShot.2.1 100 = .ok (.iconst 1, 1) := by decide +kernel
theorem dX11_takeShot_101 : decode kX11_takeShot.2.1 101 = .ok (.iadd, 1) := by decide +kernel
theorem dX11_takeShot_102 : decode kX11_takeShot.2.1 102 = .ok (.putfield 180, 3) := by decide +kernel
theorem dX11_takeShot_105 : decode kX11_takeShot.2.1 105 = .ok (.aload_n 1, 1) := by decide +kernel
theorem dX11_takeShot_106 : decode kX11_takeShot.2.1 106 = .ok (.dup, 1) := by decide +kernel
theorem dX11_takeShot_107 : decode kX11_takeShot.2.1 107 = .ok (.getfield 177, 3) := by decide +kernel
theorem dX11_takeShot_110 : decode kX11_takeShot.2.1 110 = .ok (.iconst 1, 1) := by decide +kernel
theorem dX11_takeShot_111 : decode kX11_takeShot.2.1 111 = .ok (.iadd, 1) := by decide +kernel
theorem dX11_takeShot_112 : decode kX11_takeShot.2.1 112 = .ok (.putfield 177, 3) := by decide +kernel
theorem dX11_takeShot_115 : decode kX11_takeShot.2.1 115 = .ok (.iload 7, 2) := by decide +kernel
theorem dX11_takeShot_117 : decode kX11_takeShot.2.1 117 = .ok (.ireturn, 1) := by decide +kernel
theorem dX11_doAll_0 : decode kX11_doAll.2.1 0 = .ok (.iconst 0, 1) := by decide +kernel
theorem dX11_doAll_1 : decode kX11_doAll.2.1 1 = .ok (.istore_n 3, 1) := by decide +kernel
theorem dX11_doAll_2 : decode kX11_doAll.2.1 2 = .ok (.iload_n 3, 1) := by decide +kernel
theorem dX11_doAll_3 : decode kX11_doAll.2.1 3 = .ok (.aload_n 2, 1) := by decide +kernel
theorem dX11_doAll_4 : decode kX11_doAll.2.1 4 = .ok (.getfield 208, 3) := by decide +kernel
theorem dX11_doAll_7 : decode kX11_doAll.2.1 7 = .ok (.if_icmp .ge 24, 3) := by decide +kernel
theorem dX11_doAll_10 : decode kX11_doAll.2.1 10 = .ok (.aload_n 0, 1) := by decide +kernel
theorem dX11_doAll_11 : decode kX11_doAll.2.1 11 = .ok (.aload_n 1, 1) := by decide +kernel
theorem dX11_doAll_12 : decode kX11_doAll.2.1 12 = .ok (.aload_n 2, 1) := by decide +kernel
theorem dX11_doAll_13 : decode kX11_doAll.2.1 13 = .ok (.iload_n 3, 1) := by decide +kernel
theorem dX11_doAll_14 : decode kX11_doAll.2.1 14 = .ok (.invokevirtual 388, 3) := by decide +kernel
theorem dX11_doAll_17 : decode kX11_doAll.2.1 17 = .ok (.invokevirtual 213, 3) := by decide +kernel
theorem dX11_doAll_20 : decode kX11_doAll.2.1 20 = .ok (.ifCond .ne 5, 3) := by decide +kernel
theorem dX11_doAll_23 : decode kX11_doAll.2.1 23 = .ok (.iload_n 3, 1) := by decide +kernel
theorem dX11_doAll_24 : decode kX11_doAll.2.1 24 = .ok (.ireturn, 1) := by decide +kernel
theorem dX11_doAll_25 : decode kX11_doAll.2.1 25 = .ok (.iinc 3 1, 3) := by decide +kernel
theorem dX11_doAll_28 : decode kX11_doAll.2.1 28 = .ok (.goto (-26), 3) := by decide +kernel
theorem dX11_doAll_31 : decode kX11_doAll.2.1 31 = .ok (.aload_n 2, 1) := by decide +kernel
theorem dX11_doAll_32 : decode kX11_doAll.2.1 32 = .ok (.getfield 208, 3) := by decide +kernel
theorem dX11_doAll_35 : decode kX11_doAll.2.1 35 = .ok (.ireturn, 1) := by decide +kernel
theorem dX11_doDeed_0 : decode kX11_doDeed.2.1 0 = .ok (.lload_n 2, 1) := by decide +kernel
theorem dX11_doDeed_1 : decode kX11_doDeed.2.1 1 = .ok (.lconst 0, 1) := by decide +kernel
theorem dX11_doDeed_2 : decode kX11_doDeed.2.1 2 = .ok (.lcmp, 1) := by decide +kernel
theorem dX11_doDeed_3 : decode kX11_doDeed.2.1 3 = .ok (.ifCond .ne 15, 3) := by decide +kernel
theorem dX11_doDeed_6 : decode kX11_doDeed.2.1 6 = .ok (.aload_n 1, 1) := by decide +kernel
theorem dX11_doDeed_7 : decode kX11_doDeed.2.1 7 = .ok (.dup, 1) := by decide +kernel
theorem dX11_doDeed_8 : decode kX11_doDeed.2.1 8 = .ok (.getfield 177, 3) := by decide +kernel
theorem dX11_doDeed_11 : decode kX11_doDeed.2.1 11 = .ok (.iconst 1, 1) := by decide +kernel
theorem dX11_doDeed_12 : decode kX11_doDeed.2.1 12 = .ok (.iadd, 1) := by decide +kernel
theorem dX11_doDeed_13 : decode kX11_doDeed.2.1 13 = .ok (.putfield 177, 3) := by decide +kernel
theorem dX11_doDeed_16 : decode kX11_doDeed.2.1 16 = .ok (.iconst 1, 1) := by decide +kernel
theorem dX11_doDeed_17 : decode kX11_doDeed.2.1 17 = .ok (.ireturn, 1) := by decide +kernel
theorem dX11_doDeed_18 : decode kX11_doDeed.2.1 18 = .ok (.lload_n 2, 1) := by decide +kernel
theorem dX11_doDeed_19 : decode kX11_doDeed.2.1 19 = .ok (.lconst 1, 1) := by decide +kernel
theorem dX11_doDeed_20 : decode kX11_doDeed.2.1 20 = .ok (.lcmp, 1) := by decide +kernel
theorem dX11_doDeed_21 : decode kX11_doDeed.2.1 21 = .ok (.ifCond .ne 10, 3) := by decide +kernel
theorem dX11_doDeed_24 : decode kX11_doDeed.2.1 24 = .ok (.aload_n 1, 1) := by decide +kernel
theorem dX11_doDeed_25 : decode kX11_doDeed.2.1 25 = .ok (.iconst 0, 1) := by decide +kernel
theorem dX11_doDeed_26 : decode kX11_doDeed.2.1 26 = .ok (.putfield 180, 3) := by decide +kernel
theorem dX11_doDeed_29 : decode kX11_doDeed.2.1 29 = .ok (.iconst 1, 1) := by decide +kernel
theorem dX11_doDeed_30 : decode kX11_doDeed.2.1 30 = .ok (.ireturn, 1) := by decide +kernel
theorem dX11_doDeed_31 : decode kX11_doDeed.2.1 31 = .ok (.lload_n 2, 1) := by decide +kernel
theorem dX11_doDeed_32 : decode kX11_doDeed.2.1 32 = .ok (.ldc2_w 234, 3) := by decide +kernel
theorem dX11_doDeed_35 : decode kX11_doDeed.2.1 35 = .ok (.lcmp, 1) := by decide +kernel
theorem dX11_doDeed_36 : decode kX11_doDeed.2.1 36 = .ok (.ifCond .lt 22, 3) := by decide +kernel
theorem dX11_doDeed_39 : decode kX11_doDeed.2.1 39 = .ok (.lload_n 2, 1) := by decide +kernel
theorem dX11_doDeed_40 : decode kX11_doDeed.2.1 40 = .ok (.ldc2_w 392, 3) := by decide +kernel
theorem dX11_doDeed_43 : decode kX11_doDeed.2.1 43 = .ok (.lcmp, 1) := by decide +kernel
theorem dX11_doDeed_44 : decode kX11_doDeed.2.1 44 = .ok (.ifCond .gt 14, 3) := by decide +kernel
theorem dX11_doDeed_47 : decode kX11_doDeed.2.1 47 = .ok (.aload_n 1, 1) := by decide +kernel
theorem dX11_doDeed_48 : decode kX11_doDeed.2.1 48 = .ok (.lload_n 2, 1) := by decide +kernel
theorem dX11_doDeed_49 : decode kX11_doDeed.2.1 49 = .ok (.l2i, 1) := by decide +kernel
theorem dX11_doDeed_50 : decode kX11_doDeed.2.1 50 = .ok (.bipush 10, 2) := by decide +kernel
theorem dX11_doDeed_52 : decode kX11_doDeed.2.1 52 = .ok (.isub, 1) := by decide +kernel
theorem dX11_doDeed_53 : decode kX11_doDeed.2.1 53 = .ok (.putfield 186, 3) := by decide +kernel
theorem dX11_doDeed_56 : decode kX11_doDeed.2.1 56 = .ok (.iconst 1, 1) := by decide +kernel
theorem dX11_doDeed_57 : decode kX11_doDeed.2.1 57 = .ok (.ireturn, 1) := by decide +kernel
theorem dX11_doDeed_58 : decode kX11_doDeed.2.1 58 = .ok (.lload_n 2, 1) := by decide +kernel
theorem dX11_doDeed_59 : decode kX11_doDeed.2.1 59 = .ok (.ldc2_w 394, 3) := by decide +kernel
theorem dX11_doDeed_62 : decode kX11_doDeed.2.1 62 = .ok (.lcmp, 1) := by decide +kernel
theorem dX11_doDeed_63 : decode kX11_doDeed.2.1 63 = .ok (.ifCond .lt 11, 3) := by decide +kernel
theorem dX11_doDeed_66 : decode kX11_doDeed.2.1 66 = .ok (.lload_n 2, 1) := by decide +kernel
theorem dX11_doDeed_67 : decode kX11_doDeed.2.1 67 = .ok (.ldc2_w 396, 3) := by decide +kernel
theorem dX11_doDeed_70 : decode kX11_doDeed.2.1 70 = .ok (.lcmp, 1) := by decide +kernel
theorem dX11_doDeed_71 : decode kX11_doDeed.2.1 71 = .ok (.ifCond .le 5, 3) := by decide +kernel
theorem dX11_doDeed_74 : decode kX11_doDeed.2.1 74 = .ok (.iconst 0, 1) := by decide +kernel
theorem dX11_doDeed_75 : decode kX11_doDeed.2.1 75 = .ok (.ireturn, 1) := by decide +kernel
theorem dX11_doDeed_76 : decode kX11_doDeed.2.1 76 = .ok (.lload_n 2, 1) := by decide +kernel
theorem dX11_doDeed_77 : decode kX11_doDeed.2.1 77 = .ok (.l2i, 1) := by decide +kernel
theorem dX11_doDeed_78 : decode kX11_doDeed.2.1 78 = .ok (.sipush 10000, 3) := by decide +kernel
theorem dX11_doDeed_81 : decode kX11_doDeed.2.1 81 = .ok (.isub, 1) := by decide +kernel
theorem dX11_doDeed_82 : decode kX11_doDeed.2.1 82 = .ok (.istore 4, 2) := by decide +kernel
theorem dX11_doDeed_84 : decode kX11_doDeed.2.1 84 = .ok (.iload 4, 2) := by decide +kernel
theorem dX11_doDeed_86 : decode kX11_doDeed.2.1 86 = .ok (.sipush 10000, 3) := by decide +kernel
theorem dX11_doDeed_89 : decode kX11_doDeed.2.1 89 = .ok (.idiv, 1) := by decide +kernel
theorem dX11_doDeed_90 : decode kX11_doDeed.2.1 90 = .ok (.istore 5, 2) := by decide +kernel
theorem dX11_doDeed_92 : decode kX11_doDeed.2.1 92 = .ok (.iload 4, 2) := by decide +kernel
theorem dX11_doDeed_94 : decode kX11_doDeed.2.1 94 = .ok (.sipush 10000, 3) := by decide +kernel
theorem dX11_doDeed_97 : decode kX11_doDeed.2.1 97 = .ok (.irem, 1) := by decide +kernel
theorem dX11_doDeed_98 : decode kX11_doDeed.2.1 98 = .ok (.bipush 100, 2) := by decide +kernel
theorem dX11_doDeed_100 : decode kX11_doDeed.2.1 100 = .ok (.idiv, 1) := by decide +kernel
theorem dX11_doDeed_101 : decode kX11_doDeed.2.1 101 = .ok (.istore 6, 2) := by decide +kernel
theorem dX11_doDeed_103 : decode kX11_doDeed.2.1 103 = .ok (.iload 4, 2) := by decide +kernel
theorem dX11_doDeed_105 : decode kX11_doDeed.2.1 105 = .ok (.bipush 100, 2) := by decide +kernel
theorem dX11_doDeed_107 : decode kX11_doDeed.2.1 107 = .ok (.irem, 1) := by decide +kernel
theorem dX11_doDeed_108 : decode kX11_doDeed.2.1 108 = .ok (.istore 7, 2) := by decide +kernel
theorem dX11_doDeed_110 : decode kX11_doDeed.2.1 110 = .ok (.aload_n 0, 1) := by decide +kernel
theorem dX11_doDeed_111 : decode kX11_doDeed.2.1 111 = .ok (.iload 5, 2) := by decide +kernel
theorem dX11_doDeed_113 : decode kX11_doDeed.2.1 113 = .ok (.iload 6, 2) := by decide +kernel
theorem dX11_doDeed_115 : decode kX11_doDeed.2.1 115 = .ok (.iload 7, 2) := by decide +kernel
theorem dX11_doDeed_117 : decode kX11_doDeed.2.1 117 = .ok (.invokevirtual 142, 3) := by decide +kernel
theorem dX11_doDeed_120 : decode kX11_doDeed.2.1 120 = .ok (.ifCond .ne 5, 3) := by decide +kernel
theorem dX11_doDeed_123 : decode kX11_doDeed.2.1 123 = .ok (.iconst 0, 1) := by decide +kernel
theorem dX11_doDeed_124 : decode kX11_doDeed.2.1 124 = .ok (.ireturn, 1) := by decide +kernel
theorem dX11_doDeed_125 : decode kX11_doDeed.2.1 125 = .ok (.aload_n 0, 1) := by decide +kernel
theorem dX11_doDeed_126 : decode kX11_doDeed.2.1 126 = .ok (.aload_n 1, 1) := by decide +kernel
theorem dX11_doDeed_127 : decode kX11_doDeed.2.1 127 = .ok (.iload 5, 2) := by decide +kernel
theorem dX11_doDeed_129 : decode kX11_doDeed.2.1 129 = .ok (.iload 6, 2) := by decide +kernel
theorem dX11_doDeed_131 : decode kX11_doDeed.2.1 131 = .ok (.iload 7, 2) := by decide +kernel
theorem dX11_doDeed_133 : decode kX11_doDeed.2.1 133 = .ok (.invokevirtual 173, 3) := by decide +kernel
theorem dX11_doDeed_136 : decode kX11_doDeed.2.1 136 = .ok (.pop, 1) := by decide +kernel
theorem dX11_doDeed_137 : decode kX11_doDeed.2.1 137 = .ok (.iconst 1, 1) := by decide +kernel
theorem dX11_doDeed_138 : decode kX11_doDeed.2.1 138 = .ok (.ireturn, 1) := by decide +kernel
theorem dX11_draw_0 : decode kX11_draw.2.1 0 = .ok (.aload_n 0, 1) := by decide +kernel
theorem dX11_draw_1 : decode kX11_draw.2.1 1 = .ok (.ldc_w 398, 3) := by decide +kernel
theorem dX11_draw_4 : decode kX11_draw.2.1 4 = .ok (.aload_n 0, 1) := by decide +kernel
theorem dX11_draw_5 : decode kX11_draw.2.1 5 = .ok (.getfield 93, 3) := by decide +kernel
theorem dX11_draw_8 : decode kX11_draw.2.1 8 = .ok (.imul, 1) := by decide +kernel
theorem dX11_draw_9 : decode kX11_draw.2.1 9 = .ok (.sipush 12345, 3) := by decide +kernel
theorem dX11_draw_12 : decode kX11_draw.2.1 12 = .ok (.iadd, 1) := by decide +kernel
theorem dX11_draw_13 : decode kX11_draw.2.1 13 = .ok (.putfield 93, 3) := by decide +kernel
theorem dX11_draw_16 : decode kX11_draw.2.1 16 = .ok (.aload_n 0, 1) := by decide +kernel
theorem dX11_draw_17 : decode kX11_draw.2.1 17 = .ok (.getfield 93, 3) := by decide +kernel
theorem dX11_draw_20 : decode kX11_draw.2.1 20 = .ok (.bipush 16, 2) := by decide +kernel
theorem dX11_draw_22 : decode kX11_draw.2.1 22 = .ok (.iushr, 1) := by decide +kernel
theorem dX11_draw_23 : decode kX11_draw.2.1 23 = .ok (.ireturn, 1) := by decide +kernel
theorem dX11_drawDeed_0 : decode kX11_drawDeed.2.1 0 = .ok (.aload_n 0, 1) := by decide +kernel
theorem dX11_drawDeed_1 : decode kX11_drawDeed.2.1 1 = .ok (.invokevirtual 399, 3) := by decide +kernel
theorem dX11_drawDeed_4 : decode kX11_drawDeed.2.1 4 = .ok (.bipush 6, 2) := by decide +kernel
theorem dX11_drawDeed_6 : decode kX11_drawDeed.2.1 6 = .ok (.irem, 1) := by decide +kernel
theorem dX11_drawDeed_7 : decode kX11_drawDeed.2.1 7 = .ok (.istore_n 1, 1) := by decide +kernel
theorem dX11_drawDeed_8 : decode kX11_drawDeed.2.1 8 = .ok (.iload_n 1, 1) := by decide +kernel
theorem dX11_drawDeed_9 : decode kX11_drawDeed.2.1 9 = .ok (.iconst 2, 1) := by decide +kernel
theorem dX11_drawDeed_10 : decode kX11_drawDeed.2.1 10 = .ok (.if_icmp .ge 5, 3) := by decide +kernel
theorem dX11_drawDeed_13 : decode kX11_drawDeed.2.1 13 = .ok (.iload_n 1, 1) := by decide +kernel
theorem dX11_drawDeed_14 : decode kX11_drawDeed.2.1 14 = .ok (.ireturn, 1) := by decide +kernel
theorem dX11_drawDeed_15 : decode kX11_drawDeed.2.1 15 = .ok (.iload_n 1, 1) := by decide +kernel
theorem dX11_drawDeed_16 : decode kX11_drawDeed.2.1 16 = .ok (.iconst 2, 1) := by decide +kernel
theorem dX11_drawDeed_17 : decode kX11_drawDeed.2.1 17 = .ok (.if_icmp .ne 14, 3) := by decide +kernel
theorem dX11_drawDeed_20 : decode kX11_drawDeed.2.1 20 = .ok (.bipush 10, 2) := by decide +kernel
theorem dX11_drawDeed_22 : decode kX11_drawDeed.2.1 22 = .ok (.aload_n 0, 1) := by decide +kernel
theorem dX11_drawDeed_23 : decode kX11_drawDeed.2.1 23 = .ok (.invokevirtual 399, 3) := by decide +kernel
theorem dX11_drawDeed_26 : decode kX11_drawDeed.2.1 26 = .ok (.bipush 10, 2) := by decide +kernel
theorem dX11_drawDeed_28 : decode kX11_drawDeed.2.1 28 = .ok (.irem, 1) := by decide +kernel
theorem dX11_drawDeed_29 : decode kX11_drawDeed.2.1 29 = .ok (.iadd, 1) := by decide +kernel
theorem dX11_drawDeed_30 : decode kX11_drawDeed.2.1 30 = .ok (.ireturn, 1) := by decide +kernel
theorem dX11_drawDeed_31 : decode kX11_drawDeed.2.1 31 = .ok (.aload_n 0, 1) := by decide +kernel
theorem dX11_drawDeed_32 : decode kX11_drawDeed.2.1 32 = .ok (.invokevirtual 399, 3) := by decide +kernel
theorem dX11_drawDeed_35 : decode kX11_drawDeed.2.1 35 = .ok (.iconst 4, 1) := by decide +kernel
theorem dX11_drawDeed_36 : decode kX11_drawDeed.2.1 36 = .ok (.irem, 1) := by decide +kernel
theorem dX11_drawDeed_37 : decode kX11_drawDeed.2.1 37 = .ok (.istore_n 2, 1) := by decide +kernel
theorem dX11_drawDeed_38 : decode kX11_drawDeed.2.1 38 = .ok (.aload_n 0, 1) := by decide +kernel
theorem dX11_drawDeed_39 : decode kX11_drawDeed.2.1 39 = .ok (.invokevirtual 399, 3) := by decide +kernel
theorem dX11_drawDeed_42 : decode kX11_drawDeed.2.1 42 = .ok (.bipush 21, 2) := by decide +kernel
theorem dX11_drawDeed_44 : decode kX11_drawDeed.2.1 44 = .ok (.irem, 1) := by decide +kernel
theorem dX11_drawDeed_45 : decode kX11_drawDeed.2.1 45 = .ok (.istore_n 3, 1) := by decide +kernel
theorem dX11_drawDeed_46 : decode kX11_drawDeed.2.1 46 = .ok (.aload_n 0, 1) := by decide +kernel
theorem dX11_drawDeed_47 : decode kX11_drawDeed.2.1 47 = .ok (.invokevirtual 399, 3) := by decide +kernel
theorem dX11_drawDeed_50 : decode kX11_drawDeed.2.1 50 = .ok (.bipush 10, 2) := by decide +kernel
theorem dX11_drawDeed_52 : decode kX11_drawDeed.2.1 52 = .ok (.irem, 1) := by decide +kernel
theorem dX11_drawDeed_53 : decode kX11_drawDeed.2.1 53 = .ok (.istore 4, 2) := by decide +kernel
theorem dX11_drawDeed_55 : decode kX11_drawDeed.2.1 55 = .ok (.sipush 10000, 3) := by decide +kernel
theorem dX11_drawDeed_58 : decode kX11_drawDeed.2.1 58 = .ok (.iload_n 2, 1) := by decide +kernel
theorem dX11_drawDeed_59 : decode kX11_drawDeed.2.1 59 = .ok (.sipush 10000, 3) := by decide +kernel
theorem dX11_drawDeed_62 : decode kX11_drawDeed.2.1 62 = .ok (.imul, 1) := by decide +kernel
theorem dX11_drawDeed_63 : decode kX11_drawDeed.2.1 63 = .ok (.iadd, 1) := by decide +kernel
theorem dX11_drawDeed_64 : decode kX11_drawDeed.2.1 64 = .ok (.iload_n 3, 1) := by decide +kernel
theorem dX11_drawDeed_65 : decode kX11_drawDeed.2.1 65 = .ok (.bipush 100, 2) := by decide +kernel
theorem dX11_drawDeed_67 : decode kX11_drawDeed.2.1 67 = .ok (.imul, 1) := by decide +kernel
theorem dX11_drawDeed_68 : decode kX11_drawDeed.2.1 68 = .ok (.iadd, 1) := by decide +kernel
theorem dX11_drawDeed_69 : decode kX11_drawDeed.2.1 69 = .ok (.iload 4, 2) := by decide +kernel
theorem dX11_drawDeed_71 : decode kX11_drawDeed.2.1 71 = .ok (.iadd, 1) := by decide +kernel
theorem dX11_drawDeed_72 : decode kX11_drawDeed.2.1 72 = .ok (.ireturn, 1) := by decide +kernel
theorem dX11_playRound_0 : decode kX11_playRound.2.1 0 = .ok (.iconst 0, 1) := by decide +kernel
theorem dX11_playRound_1 : decode kX11_playRound.2.1 1 = .ok (.istore_n 3, 1) := by decide +kernel
theorem dX11_playRound_2 : decode kX11_playRound.2.1 2 = .ok (.iload_n 3, 1) := by decide +kernel
theorem dX11_playRound_3 : decode kX11_playRound.2.1 3 = .ok (.iload_n 2, 1) := by decide +kernel
theorem dX11_playRound_4 : decode kX11_playRound.2.1 4 = .ok (.if_icmp .ge 69, 3) := by decide +kernel
theorem dX11_playRound_7 : decode kX11_playRound.2.1 7 = .ok (.iload_n 3, 1) := by decide +kernel
theorem dX11_playRound_8 : decode kX11_playRound.2.1 8 = .ok (.aload_n 0, 1) := by decide +kernel
theorem dX11_playRound_9 : decode kX11_playRound.2.1 9 = .ok (.getfield 71, 3) := by decide +kernel
theorem dX11_playRound_12 : decode kX11_playRound.2.1 12 = .ok (.arraylength, 1) := by decide +kernel
theorem dX11_playRound_13 : decode kX11_playRound.2.1 13 = .ok (.if_icmp .ge 60, 3) := by decide +kernel
theorem dX11_playRound_16 : decode kX11_playRound.2.1 16 = .ok (.bipush 9, 2) := by decide +kernel
theorem dX11_playRound_18 : decode kX11_playRound.2.1 18 = .ok (.aload_n 0, 1) := by decide +kernel
theorem dX11_playRound_19 : decode kX11_playRound.2.1 19 = .ok (.getfield 34, 3) := by decide +kernel
theorem dX11_playRound_22 : decode kX11_playRound.2.1 22 = .ok (.iload_n 1, 1) := by decide +kernel
theorem dX11_playRound_23 : decode kX11_playRound.2.1 23 = .ok (.invokevirtual 135, 3) := by decide +kernel
theorem dX11_playRound_26 : decode kX11_playRound.2.1 26 = .ok (.iload_n 3, 1) := by decide +kernel
theorem dX11_playRound_27 : decode kX11_playRound.2.1 27 = .ok (.iadd, 1) := by decide +kernel
theorem dX11_playRound_28 : decode kX11_playRound.2.1 28 = .ok (.invokestatic 352, 3) := by decide +kernel
theorem dX11_playRound_31 : decode kX11_playRound.2.1 31 = .ok (.istore 4, 2) := by decide +kernel
theorem dX11_playRound_33 : decode kX11_playRound.2.1 33 = .ok (.aload_n 0, 1) := by decide +kernel
theorem dX11_playRound_34 : decode kX11_playRound.2.1 34 = .ok (.getfield 71, 3) := by decide +kernel
theorem dX11_playRound_37 : decode kX11_playRound.2.1 37 = .ok (.iload_n 3, 1) := by decide +kernel
theorem dX11_playRound_38 : decode kX11_playRound.2.1 38 = .ok (.aaload, 1) := by decide +kernel
theorem dX11_playRound_39 : decode kX11_playRound.2.1 39 = .ok (.aload_n 0, 1) := by decide +kernel
theorem dX11_playRound_40 : decode kX11_playRound.2.1 40 = .ok (.getfield 65, 3) := by decide +kernel
theorem dX11_playRound_43 : decode kX11_playRound.2.1 43 = .ok (.aload_n 0, 1) := by decide +kernel
theorem dX11_playRound_44 : decode kX11_playRound.2.1 44 = .ok (.getfield 27, 3) := by decide +kernel
theorem dX11_playRound_47 : decode kX11_playRound.2.1 47 = .ok (.aload_n 0, 1) := by decide +kernel
theorem dX11_playRound_48 : decode kX11_playRound.2.1 48 = .ok (.getfield 27, 3) := by decide +kernel
theorem dX11_playRound_51 : decode kX11_playRound.2.1 51 = .ok (.iload_n 1, 1) := by decide +kernel
theorem dX11_playRound_52 : decode kX11_playRound.2.1 52 = .ok (.invokevirtual 131, 3) := by decide +kernel
theorem dX11_playRound_55 : decode kX11_playRound.2.1 55 = .ok (.iload 4, 2) := by decide +kernel
theorem dX11_playRound_57 : decode kX11_playRound.2.1 57 = .ok (.aload_n 0, 1) := by decide +kernel
theorem dX11_playRound_58 : decode kX11_playRound.2.1 58 = .ok (.getfield 34, 3) := by decide +kernel
theorem dX11_playRound_61 : decode kX11_playRound.2.1 61 = .ok (.getfield 186, 3) := by decide +kernel
theorem dX11_playRound_64 : decode kX11_playRound.2.1 64 = .ok (.invokevirtual 247, 3) := by decide +kernel
theorem dX11_playRound_67 : decode kX11_playRound.2.1 67 = .ok (.iinc 3 1, 3) := by decide +kernel
theorem dX11_playRound_70 : decode kX11_playRound.2.1 70 = .ok (.goto (-68), 3) := by decide +kernel
theorem dX11_playRound_73 : decode kX11_playRound.2.1 73 = .ok (.aload_n 0, 1) := by decide +kernel
theorem dX11_playRound_74 : decode kX11_playRound.2.1 74 = .ok (.getfield 82, 3) := by decide +kernel
theorem dX11_playRound_77 : decode kX11_playRound.2.1 77 = .ok (.invokevirtual 402, 3) := by decide +kernel
theorem dX11_playRound_80 : decode kX11_playRound.2.1 80 = .ok (.iload_n 2, 1) := by decide +kernel
theorem dX11_playRound_81 : decode kX11_playRound.2.1 81 = .ok (.iconst 1, 1) := by decide +kernel
theorem dX11_playRound_82 : decode kX11_playRound.2.1 82 = .ok (.isub, 1) := by decide +kernel
theorem dX11_playRound_83 : decode kX11_playRound.2.1 83 = .ok (.istore_n 3, 1) := by decide +kernel
theorem dX11_playRound_84 : decode kX11_playRound.2.1 84 = .ok (.iload_n 3, 1) := by decide +kernel
theorem dX11_playRound_85 : decode kX11_playRound.2.1 85 = .ok (.ifCond .lt 131, 3) := by decide +kernel
theorem dX11_playRound_88 : decode kX11_playRound.2.1 88 = .ok (.iconst 0, 1) := by decide +kernel
theorem dX11_playRound_89 : decode kX11_playRound.2.1 89 = .ok (.istore 4, 2) := by decide +kernel
theorem dX11_playRound_91 : decode kX11_playRound.2.1 91 = .ok (.iload 4, 2) := by decide +kernel
theorem dX11_playRound_93 : decode kX11_playRound.2.1 93 = .ok (.iload_n 3, 1) := by decide +kernel
theorem dX11_playRound_94 : decode kX11_playRound.2.1 94 = .ok (.if_icmp .gt 101, 3) := by decide +kernel
theorem dX11_playRound_97 : decode kX11_playRound.2.1 97 = .ok (.iload 4, 2) := by decide +kernel
theorem dX11_playRound_99 : decode kX11_playRound.2.1 99 = .ok (.aload_n 0, 1) := by decide +kernel
theorem dX11_playRound_100 : decode kX11_playRound.2.1 100 = .ok (.getfield 71, 3) := by decide +kernel
theorem dX11_playRound_103 : decode kX11_playRound.2.1 103 = .ok (.arraylength, 1) := by decide +kernel
theorem dX11_playRound_104 : decode kX11_playRound.2.1 104 = .ok (.if_icmp .ge 91, 3) := by decide +kernel
theorem dX11_playRound_107 : decode kX11_playRound.2.1 107 = .ok (.iconst 0, 1) := by decide +kernel
theorem dX11_playRound_108 : decode kX11_playRound.2.1 108 = .ok (.istore 5, 2) := by decide +kernel
theorem dX11_playRound_110 : decode kX11_playRound.2.1 110 = .ok (.iload 5, 2) := by decide +kernel
theorem dX11_playRound_112 : decode kX11_playRound.2.1 112 = .ok (.iload 4, 2) := by decide +kernel
theorem dX11_playRound_114 : decode kX11_playRound.2.1 114 = .ok (.if_icmp .gt 75, 3) := by decide +kernel
theorem dX11_playRound_117 : decode kX11_playRound.2.1 117 = .ok (.aload_n 0, 1) := by decide +kernel
theorem dX11_playRound_118 : decode kX11_playRound.2.1 118 = .ok (.getfield 65, 3) := by decide +kernel
theorem dX11_playRound_121 : decode kX11_playRound.2.1 121 = .ok (.aload_n 0, 1) := by decide +kernel
theorem dX11_playRound_122 : decode kX11_playRound.2.1 122 = .ok (.getfield 27, 3) := by decide +kernel
theorem dX11_playRound_125 : decode kX11_playRound.2.1 125 = .ok (.aload_n 0, 1) := by decide +kernel
theorem dX11_playRound_126 : decode kX11_playRound.2.1 126 = .ok (.getfield 34, 3) := by decide +kernel
theorem dX11_playRound_129 : decode kX11_playRound.2.1 129 = .ok (.getfield 177, 3) := by decide +kernel
theorem dX11_playRound_132 : decode kX11_playRound.2.1 132 = .ok (.iload_n 3, 1) := by decide +kernel
theorem dX11_playRound_133 : decode kX11_playRound.2.1 133 = .ok (.iadd, 1) := by decide +kernel
theorem dX11_playRound_134 : decode kX11_playRound.2.1 134 = .ok (.aload_n 0, 1) := by decide +kernel
theorem dX11_playRound_135 : decode kX11_playRound.2.1 135 = .ok (.getfield 34, 3) := by decide +kernel
theorem dX11_playRound_138 : decode kX11_playRound.2.1 138 = .ok (.getfield 180, 3) := by decide +kernel
theorem dX11_playRound_141 : decode kX11_playRound.2.1 141 = .ok (.iload 5, 2) := by decide +kernel
theorem dX11_playRound_143 : decode kX11_playRound.2.1 143 = .ok (.iadd, 1) := by decide +kernel
theorem dX11_playRound_144 : decode kX11_playRound.2.1 144 = .ok (.aload_n 0, 1) := by decide +kernel
theorem dX11_playRound_145 : decode kX11_playRound.2.1 145 = .ok (.getfield 34, 3) := by decide +kernel
theorem dX11_playRound_148 : decode kX11_playRound.2.1 148 = .ok (.getfield 186, 3) := by decide +kernel
theorem dX11_playRound_151 : decode kX11_playRound.2.1 151 = .ok (.invokevirtual 377, 3) := by decide +kernel
theorem dX11_playRound_154 : decode kX11_playRound.2.1 154 = .ok (.istore 6, 2) := by decide +kernel
theorem dX11_playRound_156 : decode kX11_playRound.2.1 156 = .ok (.aload_n 0, 1) := by decide +kernel
theorem dX11_playRound_157 : decode kX11_playRound.2.1 157 = .ok (.getfield 82, 3) := by decide +kernel
theorem dX11_playRound_160 : decode kX11_playRound.2.1 160 = .ok (.aload_n 0, 1) := by decide +kernel
theorem dX11_playRound_161 : decode kX11_playRound.2.1 161 = .ok (.getfield 71, 3) := by decide +kernel
theorem dX11_playRound_164 : decode kX11_playRound.2.1 164 = .ok (.iload 4, 2) := by decide +kernel
theorem dX11_playRound_166 : decode kX11_playRound.2.1 166 = .ok (.aaload, 1) := by decide +kernel
theorem dX11_playRound_167 : decode kX11_playRound.2.1 167 = .ok (.iload 4, 2) := by decide +kernel
theorem dX11_playRound_169 : decode kX11_playRound.2.1 169 = .ok (.iload 5, 2) := by decide +kernel
theorem dX11_playRound_171 : decode kX11_playRound.2.1 171 = .ok (.iload 6, 2) := by decide +kernel
theorem dX11_playRound_173 : decode kX11_playRound.2.1 173 = .ok (.aload_n 0, 1) := by decide +kernel
theorem dX11_playRound_174 : decode kX11_playRound.2.1 174 = .ok (.getfield 27, 3) := by decide +kernel
theorem dX11_playRound_177 : decode kX11_playRound.2.1 177 = .ok (.getfield 336, 3) := by decide +kernel
theorem dX11_playRound_180 : decode kX11_playRound.2.1 180 = .ok (.invokevirtual 403, 3) := by decide +kernel
theorem dX11_playRound_183 : decode kX11_playRound.2.1 183 = .ok (.iinc 5 1, 3) := by decide +kernel
theorem dX11_playRound_186 : decode kX11_playRound.2.1 186 = .ok (.goto (-76), 3) := by decide +kernel
theorem dX11_playRound_189 : decode kX11_playRound.2.1 189 = .ok (.iinc 4 1, 3) := by decide +kernel
theorem dX11_playRound_192 : decode kX11_playRound.2.1 192 = .ok (.goto (-101), 3) := by decide +kernel
theorem dX11_playRound_195 : decode kX11_playRound.2.1 195 = .ok (.aload_n 0, 1) := by decide +kernel
theorem dX11_playRound_196 : decode kX11_playRound.2.1 196 = .ok (.getfield 82, 3) := by decide +kernel
theorem dX11_playRound_199 : decode kX11_playRound.2.1 199 = .ok (.dup, 1) := by decide +kernel
theorem dX11_playRound_200 : decode kX11_playRound.2.1 200 = .ok (.getfield 282, 3) := by decide +kernel
theorem dX11_playRound_203 : decode kX11_playRound.2.1 203 = .ok (.ldc2_w 234, 3) := by decide +kernel
theorem dX11_playRound_206 : decode kX11_playRound.2.1 206 = .ok (.lmul, 1) := by decide +kernel
theorem dX11_playRound_207 : decode kX11_playRound.2.1 207 = .ok (.putfield 282, 3) := by decide +kernel
theorem dX11_playRound_210 : decode kX11_playRound.2.1 210 = .ok (.iinc 3 (-1), 3) := by decide +kernel
theorem dX11_playRound_213 : decode kX11_playRound.2.1 213 = .ok (.goto (-129), 3) := by decide +kernel
theorem dX11_playRound_216 : decode kX11_playRound.2.1 216 = .ok (.return_, 1) := by decide +kernel
theorem dX11_addToMatch_0 : decode kX11_addToMatch.2.1 0 = .ok (.aload_n 0, 1) := by decide +kernel
theorem dX11_addToMatch_1 : decode kX11_addToMatch.2.1 1 = .ok (.getfield 86, 3) := by decide +kernel
theorem dX11_addToMatch_4 : decode kX11_addToMatch.2.1 4 = .ok (.ifnonnull 4, 3) := by decide +kernel
theorem dX11_addToMatch_7 : decode kX11_addToMatch.2.1 7 = .ok (.return_, 1) := by decide +kernel
theorem dX11_addToMatch_8 : decode kX11_addToMatch.2.1 8 = .ok (.aload_n 0, 1) := by decide +kernel
theorem dX11_addToMatch_9 : decode kX11_addToMatch.2.1 9 = .ok (.invokevirtual 157, 3) := by decide +kernel
theorem dX11_addToMatch_12 : decode kX11_addToMatch.2.1 12 = .ok (.istore 4, 2) := by decide +kernel
theorem dX11_addToMatch_14 : decode kX11_addToMatch.2.1 14 = .ok (.aload_n 1, 1) := by decide +kernel
theorem dX11_addToMatch_15 : decode kX11_addToMatch.2.1 15 = .ok (.aload_n 0, 1) := by decide +kernel
theorem dX11_addToMatch_16 : decode kX11_addToMatch.2.1 16 = .ok (.invokevirtual 227, 3) := by decide +kernel
theorem dX11_addToMatch_19 : decode kX11_addToMatch.2.1 19 = .ok (.invokevirtual 240, 3) := by decide +kernel
theorem dX11_addToMatch_22 : decode kX11_addToMatch.2.1 22 = .ok (.istore 5, 2) := by decide +kernel
theorem dX11_addToMatch_24 : decode kX11_addToMatch.2.1 24 = .ok (.iconst 0, 1) := by decide +kernel
theorem dX11_addToMatch_25 : decode kX11_addToMatch.2.1 25 = .ok (.istore 6, 2) := by decide +kernel
theorem dX11_addToMatch_27 : decode kX11_addToMatch.2.1 27 = .ok (.iload 6, 2) := by decide +kernel
theorem dX11_addToMatch_29 : decode kX11_addToMatch.2.1 29 = .ok (.bipush 10, 2) := by decide +kernel
theorem dX11_addToMatch_31 : decode kX11_addToMatch.2.1 31 = .ok (.if_icmp .ge 37, 3) := by decide +kernel
theorem dX11_addToMatch_34 : decode kX11_addToMatch.2.1 34 = .ok (.aload_n 0, 1) := by decide +kernel
theorem dX11_addToMatch_35 : decode kX11_addToMatch.2.1 35 = .ok (.getfield 86, 3) := by decide +kernel
theorem dX11_addToMatch_38 : decode kX11_addToMatch.2.1 38 = .ok (.iload 6, 2) := by decide +kernel
theorem dX11_addToMatch_40 : decode kX11_addToMatch.2.1 40 = .ok (.iload_n 3, 1) := by decide +kernel
theorem dX11_addToMatch_41 : decode kX11_addToMatch.2.1 41 = .ok (.aload_n 0, 1) := by decide +kernel
theorem dX11_addToMatch_42 : decode kX11_addToMatch.2.1 42 = .ok (.getfield 27, 3) := by decide +kernel
theorem dX11_addToMatch_45 : decode kX11_addToMatch.2.1 45 = .ok (.aload_n 1, 1) := by decide +kernel
theorem dX11_addToMatch_46 : decode kX11_addToMatch.2.1 46 = .ok (.iload 5, 2) := by decide +kernel
theorem dX11_addToMatch_48 : decode kX11_addToMatch.2.1 48 = .ok (.iload 6, 2) := by decide +kernel
theorem dX11_addToMatch_50 : decode kX11_addToMatch.2.1 50 = .ok (.invokevirtual 407, 3) := by decide +kernel
theorem dX11_addToMatch_53 : decode kX11_addToMatch.2.1 53 = .ok (.iload 4, 2) := by decide +kernel
theorem dX11_addToMatch_55 : decode kX11_addToMatch.2.1 55 = .ok (.invokevirtual 161, 3) := by decide +kernel
theorem dX11_addToMatch_58 : decode kX11_addToMatch.2.1 58 = .ok (.imul, 1) := by decide +kernel
theorem dX11_addToMatch_59 : decode kX11_addToMatch.2.1 59 = .ok (.invokevirtual 410, 3) := by decide +kernel
theorem dX11_addToMatch_62 : decode kX11_addToMatch.2.1 62 = .ok (.iinc 6 1, 3) := by decide +kernel
theorem dX11_addToMatch_65 : decode kX11_addToMatch.2.1 65 = .ok (.goto (-38), 3) := by decide +kernel
theorem dX11_addToMatch_68 : decode kX11_addToMatch.2.1 68 = .ok (.iconst 0, 1) := by decide +kernel
theorem dX11_addToMatch_69 : decode kX11_addToMatch.2.1 69 = .ok (.istore 6, 2) := by decide +kernel
theorem dX11_addToMatch_71 : decode kX11_addToMatch.2.1 71 = .ok (.iload 6, 2) := by decide +kernel
theorem dX11_addToMatch_73 : decode kX11_addToMatch.2.1 73 = .ok (.iload_n 2, 1) := by decide +kernel
theorem dX11_addToMatch_74 : decode kX11_addToMatch.2.1 74 = .ok (.if_icmp .ge 16, 3) := by decide +kernel
theorem dX11_addToMatch_77 : decode kX11_addToMatch.2.1 77 = .ok (.aload_n 0, 1) := by decide +kernel
theorem dX11_addToMatch_78 : decode kX11_addToMatch.2.1 78 = .ok (.getfield 86, 3) := by decide +kernel
theorem dX11_addToMatch_81 : decode kX11_addToMatch.2.1 81 = .ok (.invokevirtual 413, 3) := by decide +kernel
theorem dX11_addToMatch_84 : decode kX11_addToMatch.2.1 84 = .ok (.iinc 6 1, 3) := by decide +kernel
theorem dX11_addToMatch_87 : decode kX11_addToMatch.2.1 87 = .ok (.goto (-16), 3) := by decide +kernel
theorem dX11_addToMatch_90 : decode kX11_addToMatch.2.1 90 = .ok (.return_, 1) := by decide +kernel
theorem dX11_lowest_0 : decode kX11_lowest.2.1 0 = .ok (.lload_n 0, 1) := by decide +kernel
theorem dX11_lowest_1 : decode kX11_lowest.2.1 1 = .ok (.invokestatic 415, 3) := by decide +kernel
theorem dX11_lowest_4 : decode kX11_lowest.2.1 4 = .ok (.lstore 5, 2) := by decide +kernel
theorem dX11_lowest_6 : decode kX11_lowest.2.1 6 = .ok (.lload_n 2, 1) := by decide +kernel
theorem dX11_lowest_7 : decode kX11_lowest.2.1 7 = .ok (.lstore 7, 2) := by decide +kernel
theorem dX11_lowest_9 : decode kX11_lowest.2.1 9 = .ok (.iconst 0, 1) := by decide +kernel
theorem dX11_lowest_10 : decode kX11_lowest.2.1 10 = .ok (.istore 9, 2) := by decide +kernel
theorem dX11_lowest_12 : decode kX11_lowest.2.1 12 = .ok (.iload 9, 2) := by decide +kernel
theorem dX11_lowest_14 : decode kX11_lowest.2.1 14 = .ok (.sipush 200, 3) := by decide +kernel
theorem dX11_lowest_17 : decode kX11_lowest.2.1 17 = .ok (.if_icmp .ge 31, 3) := by decide +kernel
theorem dX11_lowest_20 : decode kX11_lowest.2.1 20 = .ok (.lload 7, 2) := by decide +kernel
theorem dX11_lowest_22 : decode kX11_lowest.2.1 22 = .ok (.lconst 0, 1) := by decide +kernel
theorem dX11_lowest_23 : decode kX11_lowest.2.1 23 = .ok (.lcmp, 1) := by decide +kernel
theorem dX11_lowest_24 : decode kX11_lowest.2.1 24 = .ok (.ifCond .eq 24, 3) := by decide +kernel
theorem dX11_lowest_27 : decode kX11_lowest.2.1 27 = .ok (.lload 5, 2) := by decide +kernel
theorem dX11_lowest_29 : decode kX11_lowest.2.1 29 = .ok (.lload 7, 2) := by decide +kernel
theorem dX11_lowest_31 : decode kX11_lowest.2.1 31 = .ok (.lrem, 1) := by decide +kernel
theorem dX11_lowest_32 : decode kX11_lowest.2.1 32 = .ok (.lstore 10, 2) := by decide +kernel
theorem dX11_lowest_34 : decode kX11_lowest.2.1 34 = .ok (.lload 7, 2) := by decide +kernel
theorem dX11_lowest_36 : decode kX11_lowest.2.1 36 = .ok (.lstore 5, 2) := by decide +kernel
theorem dX11_lowest_38 : decode kX11_lowest.2.1 38 = .ok (.lload 10, 2) := by decide +kernel
theorem dX11_lowest_40 : decode kX11_lowest.2.1 40 = .ok (.lstore 7, 2) := by decide +kernel
theorem dX11_lowest_42 : decode kX11_lowest.2.1 42 = .ok (.iinc 9 1, 3) := by decide +kernel
theorem dX11_lowest_45 : decode kX11_lowest.2.1 45 = .ok (.goto (-33), 3) := by decide +kernel
theorem dX11_lowest_48 : decode kX11_lowest.2.1 48 = .ok (.iload 4, 2) := by decide +kernel
theorem dX11_lowest_50 : decode kX11_lowest.2.1 50 = .ok (.ifCond .ne 7, 3) := by decide +kernel
theorem dX11_lowest_53 : decode kX11_lowest.2.1 53 = .ok (.lload_n 0, 1) := by decide +kernel
theorem dX11_lowest_54 : decode kX11_lowest.2.1 54 = .ok (.goto 4, 3) := by decide +kernel
theorem dX11_lowest_57 : decode kX11_lowest.2.1 57 = .ok (.lload_n 2, 1) := by decide +kernel
theorem dX11_lowest_58 : decode kX11_lowest.2.1 58 = .ok (.lstore 9, 2) := by decide +kernel
theorem dX11_lowest_60 : decode kX11_lowest.2.1 60 = .ok (.lload 5, 2) := by decide +kernel
theorem dX11_lowest_62 : decode kX11_lowest.2.1 62 = .ok (.lconst 0, 1) := by decide +kernel
theorem dX11_lowest_63 : decode kX11_lowest.2.1 63 = .ok (.lcmp, 1) := by decide +kernel
theorem dX11_lowest_64 : decode kX11_lowest.2.1 64 = .ok (.ifCond .ne 8, 3) := by decide +kernel
theorem dX11_lowest_67 : decode kX11_lowest.2.1 67 = .ok (.lload 9, 2) := by decide +kernel
theorem dX11_lowest_69 : decode kX11_lowest.2.1 69 = .ok (.goto 8, 3) := by decide +kernel
theorem dX11_lowest_72 : decode kX11_lowest.2.1 72 = .ok (.lload 9, 2) := by decide +kernel
theorem dX11_lowest_74 : decode kX11_lowest.2.1 74 = .ok (.lload 5, 2) := by decide +kernel
theorem dX11_lowest_76 : decode kX11_lowest.2.1 76 = .ok (.ldiv, 1) := by decide +kernel
theorem dX11_lowest_77 : decode kX11_lowest.2.1 77 = .ok (.lreturn, 1) := by decide +kernel
theorem dX11_refusedSeen_0 : decode kX11_refusedSeen.2.1 0 = .ok (.aload_n 0, 1) := by decide +kernel
theorem dX11_refusedSeen_1 : decode kX11_refusedSeen.2.1 1 = .ok (.iload_n 1, 1) := by decide +kernel
theorem dX11_refusedSeen_2 : decode kX11_refusedSeen.2.1 2 = .ok (.invokevirtual 194, 3) := by decide +kernel
theorem dX11_refusedSeen_5 : decode kX11_refusedSeen.2.1 5 = .ok (.ifCond .eq 11, 3) := by decide +kernel
theorem dX11_refusedSeen_8 : decode kX11_refusedSeen.2.1 8 = .ok (.iload_n 2, 1) := by decide +kernel
theorem dX11_refusedSeen_9 : decode kX11_refusedSeen.2.1 9 = .ok (.i2l, 1) := by decide +kernel
theorem dX11_refusedSeen_10 : decode kX11_refusedSeen.2.1 10 = .ok (.invokestatic 150, 3) := by decide +kernel
theorem dX11_refusedSeen_13 : decode kX11_refusedSeen.2.1 13 = .ok (.ifCond .ne 6, 3) := by decide +kernel
theorem dX11_refusedSeen_16 : decode kX11_refusedSeen.2.1 16 = .ok (.bipush (-2), 2) := by decide +kernel
theorem dX11_refusedSeen_18 : decode kX11_refusedSeen.2.1 18 = .ok (.ireturn, 1) := by decide +kernel
theorem dX11_refusedSeen_19 : decode kX11_refusedSeen.2.1 19 = .ok (.aload_n 0, 1) := by decide +kernel
theorem dX11_refusedSeen_20 : decode kX11_refusedSeen.2.1 20 = .ok (.getfield 50, 3) := by decide +kernel
theorem dX11_refusedSeen_23 : decode kX11_refusedSeen.2.1 23 = .ok (.iload_n 1, 1) := by decide +kernel
theorem dX11_refusedSeen_24 : decode kX11_refusedSeen.2.1 24 = .ok (.aaload, 1) := by decide +kernel
theorem dX11_refusedSeen_25 : decode kX11_refusedSeen.2.1 25 = .ok (.invokestatic 419, 3) := by decide +kernel
theorem dX11_refusedSeen_28 : decode kX11_refusedSeen.2.1 28 = .ok (.istore_n 3, 1) := by decide +kernel
theorem dX11_refusedSeen_29 : decode kX11_refusedSeen.2.1 29 = .ok (.iload_n 3, 1) := by decide +kernel
theorem dX11_refusedSeen_30 : decode kX11_refusedSeen.2.1 30 = .ok (.ifCond .eq 5, 3) := by decide +kernel
theorem dX11_refusedSeen_33 : decode kX11_refusedSeen.2.1 33 = .ok (.iload_n 3, 1) := by decide +kernel
theorem dX11_refusedSeen_34 : decode kX11_refusedSeen.2.1 34 = .ok (.ireturn, 1) := by decide +kernel
theorem dX11_refusedSeen_35 : decode kX11_refusedSeen.2.1 35 = .ok (.iconst 0, 1) := by decide +kernel
theorem dX11_refusedSeen_36 : decode kX11_refusedSeen.2.1 36 = .ok (.istore 4, 2) := by decide +kernel
theorem dX11_refusedSeen_38 : decode kX11_refusedSeen.2.1 38 = .ok (.iload 4, 2) := by decide +kernel
theorem dX11_refusedSeen_40 : decode kX11_refusedSeen.2.1 40 = .ok (.aload_n 0, 1) := by decide +kernel
theorem dX11_refusedSeen_41 : decode kX11_refusedSeen.2.1 41 = .ok (.getfield 50, 3) := by decide +kernel
theorem dX11_refusedSeen_44 : decode kX11_refusedSeen.2.1 44 = .ok (.iload_n 1, 1) := by decide +kernel
theorem dX11_refusedSeen_45 : decode kX11_refusedSeen.2.1 45 = .ok (.aaload, 1) := by decide +kernel
theorem dX11_refusedSeen_46 : decode kX11_refusedSeen.2.1 46 = .ok (.getfield 208, 3) := by decide +kernel
theorem dX11_refusedSeen_49 : decode kX11_refusedSeen.2.1 49 = .ok (.if_icmp .ge 29, 3) := by decide +kernel
theorem dX11_refusedSeen_52 : decode kX11_refusedSeen.2.1 52 = .ok (.aload_n 0, 1) := by decide +kernel
theorem dX11_refusedSeen_53 : decode kX11_refusedSeen.2.1 53 = .ok (.getfield 50, 3) := by decide +kernel
theorem dX11_refusedSeen_56 : decode kX11_refusedSeen.2.1 56 = .ok (.iload_n 1, 1) := by decide +kernel
theorem dX11_refusedSeen_57 : decode kX11_refusedSeen.2.1 57 = .ok (.aaload, 1) := by decide +kernel
theorem dX11_refusedSeen_58 : decode kX11_refusedSeen.2.1 58 = .ok (.iload 4, 2) := by decide +kernel
theorem dX11_refusedSeen_60 : decode kX11_refusedSeen.2.1 60 = .ok (.invokevirtual 388, 3) := by decide +kernel
theorem dX11_refusedSeen_63 : decode kX11_refusedSeen.2.1 63 = .ok (.invokestatic 150, 3) := by decide +kernel
theorem dX11_refusedSeen_66 : decode kX11_refusedSeen.2.1 66 = .ok (.ifCond .ne 6, 3) := by decide +kernel
theorem dX11_refusedSeen_69 : decode kX11_refusedSeen.2.1 69 = .ok (.bipush (-3), 2) := by decide +kernel
theorem dX11_refusedSeen_71 : decode kX11_refusedSeen.2.1 71 = .ok (.ireturn, 1) := by decide +kernel
theorem dX11_refusedSeen_72 : decode kX11_refusedSeen.2.1 72 = .ok (.iinc 4 1, 3) := by decide +kernel
theorem dX11_refusedSeen_75 : decode kX11_refusedSeen.2.1 75 = .ok (.goto (-37), 3) := by decide +kernel
theorem dX11_refusedSeen_78 : decode kX11_refusedSeen.2.1 78 = .ok (.iconst 0, 1) := by decide +kernel
theorem dX11_refusedSeen_79 : decode kX11_refusedSeen.2.1 79 = .ok (.ireturn, 1) := by decide +kernel
theorem dX11_refusedSize_0 : decode kX11_refusedSize.2.1 0 = .ok (.aload_n 0, 1) := by decide +kernel
theorem dX11_refusedSize_1 : decode kX11_refusedSize.2.1 1 = .ok (.getfield 197, 3) := by decide +kernel
theorem dX11_refusedSize_4 : decode kX11_refusedSize.2.1 4 = .ok (.ifCond .ne 6, 3) := by decide +kernel
theorem dX11_refusedSize_7 : decode kX11_refusedSize.2.1 7 = .ok (.bipush (-6), 2) := by decide +kernel
theorem dX11_refusedSize_9 : decode kX11_refusedSize.2.1 9 = .ok (.ireturn, 1) := by decide +kernel
theorem dX11_refusedSize_10 : decode kX11_refusedSize.2.1 10 = .ok (.aload_n 0, 1) := by decide +kernel
theorem dX11_refusedSize_11 : decode kX11_refusedSize.2.1 11 = .ok (.getfield 208, 3) := by decide +kernel
theorem dX11_refusedSize_14 : decode kX11_refusedSize.2.1 14 = .ok (.iconst 1, 1) := by decide +kernel
theorem dX11_refusedSize_15 : decode kX11_refusedSize.2.1 15 = .ok (.if_icmp .lt 12, 3) := by decide +kernel
theorem dX11_refusedSize_18 : decode kX11_refusedSize.2.1 18 = .ok (.aload_n 0, 1) := by decide +kernel
theorem dX11_refusedSize_19 : decode kX11_refusedSize.2.1 19 = .ok (.getfield 208, 3) := by decide +kernel
theorem dX11_refusedSize_22 : decode kX11_refusedSize.2.1 22 = .ok (.bipush 8, 2) := by decide +kernel
theorem dX11_refusedSize_24 : decode kX11_refusedSize.2.1 24 = .ok (.if_icmp .le 8, 3) := by decide +kernel
theorem dX11_refusedSize_27 : decode kX11_refusedSize.2.1 27 = .ok (.bipush (-4), 2) := by decide +kernel
theorem dX11_refusedSize_29 : decode kX11_refusedSize.2.1 29 = .ok (.goto 4, 3) := by decide +kernel
theorem dX11_refusedSize_32 : decode kX11_refusedSize.2.1 32 = .ok (.iconst 0, 1) := by decide +kernel
theorem dX11_refusedSize_33 : decode kX11_refusedSize.2.1 33 = .ok (.ireturn, 1) := by decide +kernel
theorem dX11_countSpots_0 : decode kX11_countSpots.2.1 0 = .ok (.aload_n 0, 1) := by decide +kernel
theorem dX11_countSpots_1 : decode kX11_countSpots.2.1 1 = .ok (.getfield 75, 3) := by decide +kernel
theorem dX11_countSpots_4 : decode kX11_countSpots.2.1 4 = .ok (.iconst 0, 1) := by decide +kernel
theorem dX11_countSpots_5 : decode kX11_countSpots.2.1 5 = .ok (.invokestatic 423, 3) := by decide +kernel
theorem dX11_countSpots_8 : decode kX11_countSpots.2.1 8 = .ok (.iconst 0, 1) := by decide +kernel
theorem dX11_countSpots_9 : decode kX11_countSpots.2.1 9 = .ok (.istore_n 3, 1) := by decide +kernel
theorem dX11_countSpots_10 : decode kX11_countSpots.2.1 10 = .ok (.iload_n 3, 1) := by decide +kernel
theorem dX11_countSpots_11 : decode kX11_countSpots.2.1 11 = .ok (.bipush 10, 2) := by decide +kernel
theorem dX11_countSpots_13 : decode kX11_countSpots.2.1 13 = .ok (.if_icmp .ge 49, 3) := by decide +kernel
theorem dX11_countSpots_16 : decode kX11_countSpots.2.1 16 = .ok (.aload_n 0, 1) := by decide +kernel
theorem dX11_countSpots_17 : decode kX11_countSpots.2.1 17 = .ok (.aload_n 0, 1) := by decide +kernel
theorem dX11_countSpots_18 : decode kX11_countSpots.2.1 18 = .ok (.getfield 65, 3) := by decide +kernel
theorem dX11_countSpots_21 : decode kX11_countSpots.2.1 21 = .ok (.aload_n 0, 1) := by decide +kernel
theorem dX11_countSpots_22 : decode kX11_countSpots.2.1 22 = .ok (.getfield 27, 3) := by decide +kernel
theorem dX11_countSpots_25 : decode kX11_countSpots.2.1 25 = .ok (.aload_n 0, 1) := by decide +kernel
theorem dX11_countSpots_26 : decode kX11_countSpots.2.1 26 = .ok (.getfield 27, 3) := by decide +kernel
theorem dX11_countSpots_29 : decode kX11_countSpots.2.1 29 = .ok (.iload_n 1, 1) := by decide +kernel
theorem dX11_countSpots_30 : decode kX11_countSpots.2.1 30 = .ok (.invokevirtual 131, 3) := by decide +kernel
theorem dX11_countSpots_33 : decode kX11_countSpots.2.1 33 = .ok (.aload_n 0, 1) := by decide +kernel
theorem dX11_countSpots_34 : decode kX11_countSpots.2.1 34 = .ok (.getfield 34, 3) := by decide +kernel
theorem dX11_countSpots_37 : decode kX11_countSpots.2.1 37 = .ok (.iload_n 1, 1) := by decide +kernel
theorem dX11_countSpots_38 : decode kX11_countSpots.2.1 38 = .ok (.invokevirtual 135, 3) := by decide +kernel
theorem dX11_countSpots_41 : decode kX11_countSpots.2.1 41 = .ok (.aload_n 0, 1) := by decide +kernel
theorem dX11_countSpots_42 : decode kX11_countSpots.2.1 42 = .ok (.getfield 34, 3) := by decide +kernel
theorem dX11_countSpots_45 : decode kX11_countSpots.2.1 45 = .ok (.getfield 186, 3) := by decide +kernel
theorem dX11_countSpots_48 : decode kX11_countSpots.2.1 48 = .ok (.iload_n 2, 1) := by decide +kernel
theorem dX11_countSpots_49 : decode kX11_countSpots.2.1 49 = .ok (.iload_n 3, 1) := by decide +kernel
theorem dX11_countSpots_50 : decode kX11_countSpots.2.1 50 = .ok (.invokevirtual 381, 3) := by decide +kernel
theorem dX11_countSpots_53 : decode kX11_countSpots.2.1 53 = .ok (.invokevirtual 428, 3) := by decide +kernel
theorem dX11_countSpots_56 : decode kX11_countSpots.2.1 56 = .ok (.iinc 3 1, 3) := by decide +kernel
theorem dX11_countSpots_59 : decode kX11_countSpots.2.1 59 = .ok (.goto (-49), 3) := by decide +kernel
theorem dX11_countSpots_62 : decode kX11_countSpots.2.1 62 = .ok (.return_, 1) := by decide +kernel
theorem dX11_addSpot_0 : decode kX11_addSpot.2.1 0 = .ok (.iload_n 1, 1) := by decide +kernel
theorem dX11_addSpot_1 : decode kX11_addSpot.2.1 1 = .ok (.i2l, 1) := by decide +kernel
theorem dX11_addSpot_2 : decode kX11_addSpot.2.1 2 = .ok (.invokestatic 150, 3) := by decide +kernel
theorem dX11_addSpot_5 : decode kX11_addSpot.2.1 5 = .ok (.ifCond .eq 13, 3) := by decide +kernel
theorem dX11_addSpot_8 : decode kX11_addSpot.2.1 8 = .ok (.aload_n 0, 1) := by decide +kernel
theorem dX11_addSpot_9 : decode kX11_addSpot.2.1 9 = .ok (.getfield 75, 3) := by decide +kernel
theorem dX11_addSpot_12 : decode kX11_addSpot.2.1 12 = .ok (.iload_n 1, 1) := by decide +kernel
theorem dX11_addSpot_13 : decode kX11_addSpot.2.1 13 = .ok (.dup2, 1) := by decide +kernel
theorem dX11_addSpot_14 : decode kX11_addSpot.2.1 14 = .ok (.iaload, 1) := by decide +kernel
theorem dX11_addSpot_15 : decode kX11_addSpot.2.1 15 = .ok (.iconst 1, 1) := by decide +kernel
theorem dX11_addSpot_16 : decode kX11_addSpot.2.1 16 = .ok (.iadd, 1) := by decide +kernel
theorem dX11_addSpot_17 : decode kX11_addSpot.2.1 17 = .ok (.iastore, 1) := by decide +kernel
theorem dX11_addSpot_18 : decode kX11_addSpot.2.1 18 = .ok (.return_, 1) := by decide +kernel
theorem dX11_waysSeen_0 : decode kX11_waysSeen.2.1 0 = .ok (.aload_n 0, 1) := by decide +kernel
theorem dX11_waysSeen_1 : decode kX11_waysSeen.2.1 1 = .ok (.iload_n 2, 1) := by decide +kernel
theorem dX11_waysSeen_2 : decode kX11_waysSeen.2.1 2 = .ok (.iload_n 3, 1) := by decide +kernel
theorem dX11_waysSeen_3 : decode kX11_waysSeen.2.1 3 = .ok (.invokevirtual 243, 3) := by decide +kernel
theorem dX11_waysSeen_6 : decode kX11_waysSeen.2.1 6 = .ok (.lconst 1, 1) := by decide +kernel
theorem dX11_waysSeen_7 : decode kX11_waysSeen.2.1 7 = .ok (.lstore 4, 2) := by decide +kernel
theorem dX11_waysSeen_9 : decode kX11_waysSeen.2.1 9 = .ok (.iconst 0, 1) := by decide +kernel
theorem dX11_waysSeen_10 : decode kX11_waysSeen.2.1 10 = .ok (.istore 6, 2) := by decide +kernel
theorem dX11_waysSeen_12 : decode kX11_waysSeen.2.1 12 = .ok (.iload 6, 2) := by decide +kernel
theorem dX11_waysSeen_14 : decode kX11_waysSeen.2.1 14 = .ok (.aload_n 0, 1) := by decide +kernel
theorem dX11_waysSeen_15 : decode kX11_waysSeen.2.1 15 = .ok (.getfield 50, 3) := by decide +kernel
theorem dX11_waysSeen_18 : decode kX11_waysSeen.2.1 18 = .ok (.iload_n 1, 1) := by decide +kernel
theorem dX11_waysSeen_19 : decode kX11_waysSeen.2.1 19 = .ok (.aaload, 1) := by decide +kernel
theorem dX11_waysSeen_20 : decode kX11_waysSeen.2.1 20 = .ok (.getfield 208, 3) := by decide +kernel
theorem dX11_waysSeen_23 : decode kX11_waysSeen.2.1 23 = .ok (.if_icmp .ge 48, 3) := by decide +kernel
theorem dX11_waysSeen_26 : decode kX11_waysSeen.2.1 26 = .ok (.aload_n 0, 1) := by decide +kernel
theorem dX11_waysSeen_27 : decode kX11_waysSeen.2.1 27 = .ok (.getfield 50, 3) := by decide +kernel
theorem dX11_waysSeen_30 : decode kX11_waysSeen.2.1 30 = .ok (.iload_n 1, 1) := by decide +kernel
theorem dX11_waysSeen_31 : decode kX11_waysSeen.2.1 31 = .ok (.aaload, 1) := by decide +kernel
theorem dX11_waysSeen_32 : decode kX11_waysSeen.2.1 32 = .ok (.iload 6, 2) := by decide +kernel
theorem dX11_waysSeen_34 : decode kX11_waysSeen.2.1 34 = .ok (.invokevirtual 388, 3) := by decide +kernel
theorem dX11_waysSeen_37 : decode kX11_waysSeen.2.1 37 = .ok (.lstore 7, 2) := by decide +kernel
theorem dX11_waysSeen_39 : decode kX11_waysSeen.2.1 39 = .ok (.lload 4, 2) := by decide +kernel
theorem dX11_waysSeen_41 : decode kX11_waysSeen.2.1 41 = .ok (.lload 7, 2) := by decide +kernel
theorem dX11_waysSeen_43 : decode kX11_waysSeen.2.1 43 = .ok (.invokestatic 150, 3) := by decide +kernel
theorem dX11_waysSeen_46 : decode kX11_waysSeen.2.1 46 = .ok (.ifCond .eq 15, 3) := by decide +kernel
theorem dX11_waysSeen_49 : decode kX11_waysSeen.2.1 49 = .ok (.aload_n 0, 1) := by decide +kernel
theorem dX11_waysSeen_50 : decode kX11_waysSeen.2.1 50 = .ok (.getfield 75, 3) := by decide +kernel
theorem dX11_waysSeen_53 : decode kX11_waysSeen.2.1 53 = .ok (.lload 7, 2) := by decide +kernel
theorem dX11_waysSeen_55 : decode kX11_waysSeen.2.1 55 = .ok (.l2i, 1) := by decide +kernel
theorem dX11_waysSeen_56 : decode kX11_waysSeen.2.1 56 = .ok (.iaload, 1) := by decide +kernel
theorem dX11_waysSeen_57 : decode kX11_waysSeen.2.1 57 = .ok (.i2l, 1) := by decide +kernel
theorem dX11_waysSeen_58 : decode kX11_waysSeen.2.1 58 = .ok (.goto 4, 3) := by decide +kernel
theorem dX11_waysSeen_61 : decode kX11_waysSeen.2.1 61 = .ok (.lconst 0, 1) := by decide +kernel
theorem dX11_waysSeen_62 : decode kX11_waysSeen.2.1 62 = .ok (.lmul, 1) := by decide +kernel
theorem dX11_waysSeen_63 : decode kX11_waysSeen.2.1 63 = .ok (.lstore 4, 2) := by decide +kernel
theorem dX11_waysSeen_65 : decode kX11_waysSeen.2.1 65 = .ok (.iinc 6 1, 3) := by decide +kernel
theorem dX11_waysSeen_68 : decode kX11_waysSeen.2.1 68 = .ok (.goto (-56), 3) := by decide +kernel
theorem dX11_waysSeen_71 : decode kX11_waysSeen.2.1 71 = .ok (.lload 4, 2) := by decide +kernel
theorem dX11_waysSeen_73 : decode kX11_waysSeen.2.1 73 = .ok (.lreturn, 1) := by decide +kernel
theorem dX11_seenShooters_0 : decode kX11_seenShooters.2.1 0 = .ok (.iconst 0, 1) := by decide +kernel
theorem dX11_seenShooters_1 : decode kX11_seenShooters.2.1 1 = .ok (.istore_n 3, 1) := by decide +kernel
theorem dX11_seenShooters_2 : decode kX11_seenShooters.2.1 2 = .ok (.iconst 0, 1) := by decide +kernel
theorem dX11_seenShooters_3 : decode kX11_seenShooters.2.1 3 = .ok (.istore 4, 2) := by decide +kernel
theorem dX11_seenShooters_5 : decode kX11_seenShooters.2.1 5 = .ok (.iload 4, 2) := by decide +kernel
theorem dX11_seenShooters_7 : decode kX11_seenShooters.2.1 7 = .ok (.aload_n 0, 1) := by decide +kernel
theorem dX11_seenShooters_8 : decode kX11_seenShooters.2.1 8 = .ok (.getfield 27, 3) := by decide +kernel
theorem dX11_seenShooters_11 : decode kX11_seenShooters.2.1 11 = .ok (.getfield 217, 3) := by decide +kernel
theorem dX11_seenShooters_14 : decode kX11_seenShooters.2.1 14 = .ok (.if_icmp .ge 29, 3) := by decide +kernel
theorem dX11_seenShooters_17 : decode kX11_seenShooters.2.1 17 = .ok (.aload_n 0, 1) := by decide +kernel
theorem dX11_seenShooters_18 : decode kX11_seenShooters.2.1 18 = .ok (.iload_n 1, 1) := by decide +kernel
theorem dX11_seenShooters_19 : decode kX11_seenShooters.2.1 19 = .ok (.iload 4, 2) := by decide +kernel
theorem dX11_seenShooters_21 : decode kX11_seenShooters.2.1 21 = .ok (.iload_n 2, 1) := by decide +kernel
theorem dX11_seenShooters_22 : decode kX11_seenShooters.2.1 22 = .ok (.invokevirtual 294, 3) := by decide +kernel
theorem dX11_seenShooters_25 : decode kX11_seenShooters.2.1 25 = .ok (.lconst 0, 1) := by decide +kernel
theorem dX11_seenShooters_26 : decode kX11_seenShooters.2.1 26 = .ok (.lcmp, 1) := by decide +kernel
theorem dX11_seenShooters_27 : decode kX11_seenShooters.2.1 27 = .ok (.ifCond .le 10, 3) := by decide +kernel
theorem dX11_seenShooters_30 : decode kX11_seenShooters.2.1 30 = .ok (.iload_n 3, 1) := by decide +kernel
theorem dX11_seenShooters_31 : decode kX11_seenShooters.2.1 31 = .ok (.iconst 1, 1) := by decide +kernel
theorem dX11_seenShooters_32 : decode kX11_seenShooters.2.1 32 = .ok (.iload 4, 2) := by decide +kernel
theorem dX11_seenShooters_34 : decode kX11_seenShooters.2.1 34 = .ok (.ishl, 1) := by decide +kernel
theorem dX11_seenShooters_35 : decode kX11_seenShooters.2.1 35 = .ok (.ior, 1) := by decide +kernel
theorem dX11_seenShooters_36 : decode kX11_seenShooters.2.1 36 = .ok (.istore_n 3, 1) := by decide +kernel
theorem dX11_seenShooters_37 : decode kX11_seenShooters.2.1 37 = .ok (.iinc 4 1, 3) := by decide +kernel
theorem dX11_seenShooters_40 : decode kX11_seenShooters.2.1 40 = .ok (.goto (-35), 3) := by decide +kernel
theorem dX11_seenShooters_43 : decode kX11_seenShooters.2.1 43 = .ok (.iload_n 3, 1) := by decide +kernel
theorem dX11_seenShooters_44 : decode kX11_seenShooters.2.1 44 = .ok (.ireturn, 1) := by decide +kernel
theorem dX11_pairsThatMeet_0 : decode kX11_pairsThatMeet.2.1 0 = .ok (.iconst 0, 1) := by decide +kernel
theorem dX11_pairsThatMeet_1 : decode kX11_pairsThatMeet.2.1 1 = .ok (.istore_n 3, 1) := by decide +kernel
theorem dX11_pairsThatMeet_2 : decode kX11_pairsThatMeet.2.1 2 = .ok (.iconst 0, 1) := by decide +kernel
theorem dX11_pairsThatMeet_3 : decode kX11_pairsThatMeet.2.1 3 = .ok (.istore 4, 2) := by decide +kernel
theorem dX11_pairsThatMeet_5 : decode kX11_pairsThatMeet.2.1 5 = .ok (.iload 4, 2) := by decide +kernel
theorem dX11_pairsThatMeet_7 : decode kX11_pairsThatMeet.2.1 7 = .ok (.aload_n 0, 1) := by decide +kernel
theorem dX11_pairsThatMeet_8 : decode kX11_pairsThatMeet.2.1 8 = .ok (.getfield 71, 3) := by decide +kernel
theorem dX11_pairsThatMeet_11 : decode kX11_pairsThatMeet.2.1 11 = .ok (.arraylength, 1) := by decide +kernel
theorem dX11_pairsThatMeet_12 : decode kX11_pairsThatMeet.2.1 12 = .ok (.if_icmp .ge 92, 3) := by decide +kernel
theorem dX11_pairsThatMeet_15 : decode kX11_pairsThatMeet.2.1 15 = .ok (.iload 4, 2) := by decide +kernel
theorem dX11_pairsThatMeet_17 : decode kX11_pairsThatMeet.2.1 17 = .ok (.iconst 1, 1) := by decide +kernel
theorem dX11_pairsThatMeet_18 : decode kX11_pairsThatMeet.2.1 18 = .ok (.iadd, 1) := by decide +kernel
theorem dX11_pairsThatMeet_19 : decode kX11_pairsThatMeet.2.1 19 = .ok (.istore 5, 2) := by decide +kernel
theorem dX11_pairsThatMeet_21 : decode kX11_pairsThatMeet.2.1 21 = .ok (.iload 5, 2) := by decide +kernel
theorem dX11_pairsThatMeet_23 : decode kX11_pairsThatMeet.2.1 23 = .ok (.aload_n 0, 1) := by decide +kernel
theorem dX11_pairsThatMeet_24 : decode kX11_pairsThatMeet.2.1 24 = .ok (.getfield 71, 3) := by decide +kernel
theorem dX11_pairsThatMeet_27 : decode kX11_pairsThatMeet.2.1 27 = .ok (.arraylength, 1) := by decide +kernel
theorem dX11_pairsThatMeet_28 : decode kX11_pairsThatMeet.2.1 28 = .ok (.if_icmp .ge 70, 3) := by decide +kernel
theorem dX11_pairsThatMeet_31 : decode kX11_pairsThatMeet.2.1 31 = .ok (.iload_n 1, 1) := by decide +kernel
theorem dX11_pairsThatMeet_32 : decode kX11_pairsThatMeet.2.1 32 = .ok (.iload 4, 2) := by decide +kernel
theorem dX11_pairsThatMeet_34 : decode kX11_pairsThatMeet.2.1 34 = .ok (.ishr, 1) := by decide +kernel
theorem dX11_pairsThatMeet_35 : decode kX11_pairsThatMeet.2.1 35 = .ok (.iconst 1, 1) := by decide +kernel
theorem dX11_pairsThatMeet_36 : decode kX11_pairsThatMeet.2.1 36 = .ok (.iand, 1) := by decide +kernel
theorem dX11_pairsThatMeet_37 : decode kX11_pairsThatMeet.2.1 37 = .ok (.iconst 1, 1) := by decide +kernel
theorem dX11_pairsThatMeet_38 : decode kX11_pairsThatMeet.2.1 38 = .ok (.if_icmp .ne 17, 3) := by decide +kernel
theorem dX11_pairsThatMeet_41 : decode kX11_pairsThatMeet.2.1 41 = .ok (.iload_n 1, 1) := by decide +kernel
theorem dX11_pairsThatMeet_42 : decode kX11_pairsThatMeet.2.1 42 = .ok (.iload 5, 2) := by decide +kernel
theorem dX11_pairsThatMeet_44 : decode kX11_pairsThatMeet.2.1 44 = .ok (.ishr, 1) := by decide +kernel
theorem dX11_pairsThatMeet_45 : decode kX11_pairsThatMeet.2.1 45 = .ok (.iconst 1, 1) := by decide +kernel
theorem dX11_pairsThatMeet_46 : decode kX11_pairsThatMeet.2.1 46 = .ok (.iand, 1) := by decide +kernel
theorem dX11_pairsThatMeet_47 : decode kX11_pairsThatMeet.2.1 47 = .ok (.iconst 1, 1) := by decide +kernel
theorem dX11_pairsThatMeet_48 : decode kX11_pairsThatMeet.2.1 48 = .ok (.if_icmp .ne 7, 3) := by decide +kernel
theorem dX11_pairsThatMeet_51 : decode kX11_pairsThatMeet.2.1 51 = .ok (.iconst 1, 1) := by decide +kernel
theorem dX11_pairsThatMeet_52 : decode kX11_pairsThatMeet.2.1 52 = .ok (.goto 4, 3) := by decide +kernel
theorem dX11_pairsThatMeet_55 : decode kX11_pairsThatMeet.2.1 55 = .ok (.iconst 0, 1) := by decide +kernel
theorem dX11_pairsThatMeet_56 : decode kX11_pairsThatMeet.2.1 56 = .ok (.istore 6, 2) := by decide +kernel
theorem dX11_pairsThatMeet_58 : decode kX11_pairsThatMeet.2.1 58 = .ok (.iload 6, 2) := by decide +kernel
theorem dX11_pairsThatMeet_60 : decode kX11_pairsThatMeet.2.1 60 = .ok (.ifCond .eq 32, 3) := by decide +kernel
theorem dX11_pairsThatMeet_63 : decode kX11_pairsThatMeet.2.1 63 = .ok (.aload_n 0, 1) := by decide +kernel
theorem dX11_pairsThatMeet_64 : decode kX11_pairsThatMeet.2.1 64 = .ok (.getfield 71, 3) := by decide +kernel
theorem dX11_pairsThatMeet_67 : decode kX11_pairsThatMeet.2.1 67 = .ok (.iload 4, 2) := by decide +kernel
theorem dX11_pairsThatMeet_69 : decode kX11_pairsThatMeet.2.1 69 = .ok (.aaload, 1) := by decide +kernel
theorem dX11_pairsThatMeet_70 : decode kX11_pairsThatMeet.2.1 70 = .ok (.iload_n 2, 1) := by decide +kernel
theorem dX11_pairsThatMeet_71 : decode kX11_pairsThatMeet.2.1 71 = .ok (.invokevirtual 431, 3) := by decide +kernel
theorem dX11_pairsThatMeet_74 : decode kX11_pairsThatMeet.2.1 74 = .ok (.aload_n 0, 1) := by decide +kernel
theorem dX11_pairsThatMeet_75 : decode kX11_pairsThatMeet.2.1 75 = .ok (.getfield 71, 3) := by decide +kernel
theorem dX11_pairsThatMeet_78 : decode kX11_pairsThatMeet.2.1 78 = .ok (.iload 5, 2) := by decide +kernel
theorem dX11_pairsThatMeet_80 : decode kX11_pairsThatMeet.2.1 80 = .ok (.aaload, 1) := by decide +kernel
theorem dX11_pairsThatMeet_81 : decode kX11_pairsThatMeet.2.1 81 = .ok (.iload_n 2, 1) := by decide +kernel
theorem dX11_pairsThatMeet_82 : decode kX11_pairsThatMeet.2.1 82 = .ok (.invokevirtual 431, 3) := by decide +kernel
theorem dX11_pairsThatMeet_85 : decode kX11_pairsThatMeet.2.1 85 = .ok (.iand, 1) := by decide +kernel
theorem dX11_pairsThatMeet_86 : decode kX11_pairsThatMeet.2.1 86 = .ok (.ifCond .eq 6, 3) := by decide +kernel
theorem dX11_pairsThatMeet_89 : decode kX11_pairsThatMeet.2.1 89 = .ok (.iinc 3 1, 3) := by decide +kernel
theorem dX11_pairsThatMeet_92 : decode kX11_pairsThatMeet.2.1 92 = .ok (.iinc 5 1, 3) := by decide +kernel
theorem dX11_pairsThatMeet_95 : decode kX11_pairsThatMeet.2.1 95 = .ok (.goto (-74), 3) := by decide +kernel
theorem dX11_pairsThatMeet_98 : decode kX11_pairsThatMeet.2.1 98 = .ok (.iinc 4 1, 3) := by decide +kernel
theorem dX11_pairsThatMeet_101 : decode kX11_pairsThatMeet.2.1 101 = .ok (.goto (-96), 3) := by decide +kernel
theorem dX11_pairsThatMeet_104 : decode kX11_pairsThatMeet.2.1 104 = .ok (.iload_n 3, 1) := by decide +kernel
theorem dX11_pairsThatMeet_105 : decode kX11_pairsThatMeet.2.1 105 = .ok (.ireturn, 1) := by decide +kernel
theorem dX11_refusedStrayed_0 : decode kX11_refusedStrayed.2.1 0 = .ok (.aload_n 0, 1) := by decide +kernel
theorem dX11_refusedStrayed_1 : decode kX11_refusedStrayed.2.1 1 = .ok (.iload_n 1, 1) := by decide +kernel
theorem dX11_refusedStrayed_2 : decode kX11_refusedStrayed.2.1 2 = .ok (.invokevirtual 194, 3) := by decide +kernel
theorem dX11_refusedStrayed_5 : decode kX11_refusedStrayed.2.1 5 = .ok (.ifCond .eq 19, 3) := by decide +kernel
theorem dX11_refusedStrayed_8 : decode kX11_refusedStrayed.2.1 8 = .ok (.aload_n 0, 1) := by decide +kernel
theorem dX11_refusedStrayed_9 : decode kX11_refusedStrayed.2.1 9 = .ok (.iload_n 2, 1) := by decide +kernel
theorem dX11_refusedStrayed_10 : decode kX11_refusedStrayed.2.1 10 = .ok (.invokevirtual 124, 3) := by decide +kernel
theorem dX11_refusedStrayed_13 : decode kX11_refusedStrayed.2.1 13 = .ok (.ifCond .eq 11, 3) := by decide +kernel
theorem dX11_refusedStrayed_16 : decode kX11_refusedStrayed.2.1 16 = .ok (.iload_n 3, 1) := by decide +kernel
theorem dX11_refusedStrayed_17 : decode kX11_refusedStrayed.2.1 17 = .ok (.i2l, 1) := by decide +kernel
theorem dX11_refusedStrayed_18 : decode kX11_refusedStrayed.2.1 18 = .ok (.invokestatic 150, 3) := by decide +kernel
theorem dX11_refusedStrayed_21 : decode kX11_refusedStrayed.2.1 21 = .ok (.ifCond .ne 6, 3) := by decide +kernel
theorem dX11_refusedStrayed_24 : decode kX11_refusedStrayed.2.1 24 = .ok (.bipush (-2), 2) := by decide +kernel
theorem dX11_refusedStrayed_26 : decode kX11_refusedStrayed.2.1 26 = .ok (.ireturn, 1) := by decide +kernel
theorem dX11_refusedStrayed_27 : decode kX11_refusedStrayed.2.1 27 = .ok (.aload_n 0, 1) := by decide +kernel
theorem dX11_refusedStrayed_28 : decode kX11_refusedStrayed.2.1 28 = .ok (.getfield 50, 3) := by decide +kernel
theorem dX11_refusedStrayed_31 : decode kX11_refusedStrayed.2.1 31 = .ok (.iload_n 1, 1) := by decide +kernel
theorem dX11_refusedStrayed_32 : decode kX11_refusedStrayed.2.1 32 = .ok (.aaload, 1) := by decide +kernel
theorem dX11_refusedStrayed_33 : decode kX11_refusedStrayed.2.1 33 = .ok (.invokestatic 419, 3) := by decide +kernel
theorem dX11_refusedStrayed_36 : decode kX11_refusedStrayed.2.1 36 = .ok (.istore 4, 2) := by decide +kernel
theorem dX11_refusedStrayed_38 : decode kX11_refusedStrayed.2.1 38 = .ok (.iload 4, 2) := by decide +kernel
theorem dX11_refusedStrayed_40 : decode kX11_refusedStrayed.2.1 40 = .ok (.ifCond .eq 6, 3) := by decide +kernel
theorem dX11_refusedStrayed_43 : decode kX11_refusedStrayed.2.1 43 = .ok (.iload 4, 2) := by decide +kernel
theorem dX11_refusedStrayed_45 : decode kX11_refusedStrayed.2.1 45 = .ok (.ireturn, 1) := by decide +kernel
theorem dX11_refusedStrayed_46 : decode kX11_refusedStrayed.2.1 46 = .ok (.iconst 0, 1) := by decide +kernel
theorem dX11_refusedStrayed_47 : decode kX11_refusedStrayed.2.1 47 = .ok (.istore 5, 2) := by decide +kernel
theorem dX11_refusedStrayed_49 : decode kX11_refusedStrayed.2.1 49 = .ok (.iload 5, 2) := by decide +kernel
theorem dX11_refusedStrayed_51 : decode kX11_refusedStrayed.2.1 51 = .ok (.aload_n 0, 1) := by decide +kernel
theorem dX11_refusedStrayed_52 : decode kX11_refusedStrayed.2.1 52 = .ok (.getfield 50, 3) := by decide +kernel
theorem dX11_refusedStrayed_55 : decode kX11_refusedStrayed.2.1 55 = .ok (.iload_n 1, 1) := by decide +kernel
theorem dX11_refusedStrayed_56 : decode kX11_refusedStrayed.2.1 56 = .ok (.aaload, 1) := by decide +kernel
theorem dX11_refusedStrayed_57 : decode kX11_refusedStrayed.2.1 57 = .ok (.getfield 208, 3) := by decide +kernel
theorem dX11_refusedStrayed_60 : decode kX11_refusedStrayed.2.1 60 = .ok (.if_icmp .ge 56, 3) := by decide +kernel
theorem dX11_refusedStrayed_63 : decode kX11_refusedStrayed.2.1 63 = .ok (.aload_n 0, 1) := by decide +kernel
theorem dX11_refusedStrayed_64 : decode kX11_refusedStrayed.2.1 64 = .ok (.getfield 50, 3) := by decide +kernel
theorem dX11_refusedStrayed_67 : decode kX11_refusedStrayed.2.1 67 = .ok (.iload_n 1, 1) := by decide +kernel
theorem dX11_refusedStrayed_68 : decode kX11_refusedStrayed.2.1 68 = .ok (.aaload, 1) := by decide +kernel
theorem dX11_refusedStrayed_69 : decode kX11_refusedStrayed.2.1 69 = .ok (.iload 5, 2) := by decide +kernel
theorem dX11_refusedStrayed_71 : decode kX11_refusedStrayed.2.1 71 = .ok (.invokevirtual 388, 3) := by decide +kernel
theorem dX11_refusedStrayed_74 : decode kX11_refusedStrayed.2.1 74 = .ok (.lstore 6, 2) := by decide +kernel
theorem dX11_refusedStrayed_76 : decode kX11_refusedStrayed.2.1 76 = .ok (.lload 6, 2) := by decide +kernel
theorem dX11_refusedStrayed_78 : decode kX11_refusedStrayed.2.1 78 = .ok (.lconst 0, 1) := by decide +kernel
theorem dX11_refusedStrayed_79 : decode kX11_refusedStrayed.2.1 79 = .ok (.lcmp, 1) := by decide +kernel
theorem dX11_refusedStrayed_80 : decode kX11_refusedStrayed.2.1 80 = .ok (.ifCond .lt 27, 3) := by decide +kernel
theorem dX11_refusedStrayed_83 : decode kX11_refusedStrayed.2.1 83 = .ok (.lload 6, 2) := by decide +kernel
theorem dX11_refusedStrayed_85 : decode kX11_refusedStrayed.2.1 85 = .ok (.ldc2_w 434, 3) := by decide +kernel
theorem dX11_refusedStrayed_88 : decode kX11_refusedStrayed.2.1 88 = .ok (.ldiv, 1) := by decide +kernel
theorem dX11_refusedStrayed_89 : decode kX11_refusedStrayed.2.1 89 = .ok (.invokestatic 374, 3) := by decide +kernel
theorem dX11_refusedStrayed_92 : decode kX11_refusedStrayed.2.1 92 = .ok (.ifCond .eq 15, 3) := by decide +kernel
theorem dX11_refusedStrayed_95 : decode kX11_refusedStrayed.2.1 95 = .ok (.lload 6, 2) := by decide +kernel
theorem dX11_refusedStrayed_97 : decode kX11_refusedStrayed.2.1 97 = .ok (.ldc2_w 434, 3) := by decide +kernel
theorem dX11_refusedStrayed_100 : decode kX11_refusedStrayed.2.1 100 = .ok (.lrem, 1) := by decide +kernel
theorem dX11_refusedStrayed_101 : decode kX11_refusedStrayed.2.1 101 = .ok (.invokestatic 150, 3) := by decide +kernel
theorem dX11_refusedStrayed_104 : decode kX11_refusedStrayed.2.1 104 = .ok (.ifCond .ne 6, 3) := by decide +kernel
theorem dX11_refusedStrayed_107 : decode kX11_refusedStrayed.2.1 107 = .ok (.bipush (-3), 2) := by decide +kernel
theorem dX11_refusedStrayed_109 : decode kX11_refusedStrayed.2.1 109 = .ok (.ireturn, 1) := by decide +kernel
theorem dX11_refusedStrayed_110 : decode kX11_refusedStrayed.2.1 110 = .ok (.iinc 5 1, 3) := by decide +kernel
theorem dX11_refusedStrayed_113 : decode kX11_refusedStrayed.2.1 113 = .ok (.goto (-64), 3) := by decide +kernel
theorem dX11_refusedStrayed_116 : decode kX11_refusedStrayed.2.1 116 = .ok (.iconst 0, 1) := by decide +kernel
theorem dX11_refusedStrayed_117 : decode kX11_refusedStrayed.2.1 117 = .ok (.ireturn, 1) := by decide +kernel
theorem dX11_landingByWind_0 : decode kX11_landingByWind.2.1 0 = .ok (.aload_n 0, 1) := by decide +kernel
theorem dX11_landingByWind_1 : decode kX11_landingByWind.2.1 1 = .ok (.getfield 65, 3) := by decide +kernel
theorem dX11_landingByWind_4 : decode kX11_landingByWind.2.1 4 = .ok (.aload_n 0, 1) := by decide +kernel
theorem dX11_landingByWind_5 : decode kX11_landingByWind.2.1 5 = .ok (.getfield 27, 3) := by decide +kernel
theorem dX11_landingByWind_8 : decode kX11_landingByWind.2.1 8 = .ok (.aload_n 0, 1) := by decide +kernel
theorem dX11_landingByWind_9 : decode kX11_landingByWind.2.1 9 = .ok (.getfield 27, 3) := by decide +kernel
theorem dX11_landingByWind_12 : decode kX11_landingByWind.2.1 12 = .ok (.iload_n 1, 1) := by decide +kernel
theorem dX11_landingByWind_13 : decode kX11_landingByWind.2.1 13 = .ok (.invokevirtual 131, 3) := by decide +kernel
theorem dX11_landingByWind_16 : decode kX11_landingByWind.2.1 16 = .ok (.aload_n 0, 1) := by decide +kernel
theorem dX11_landingByWind_17 : decode kX11_landingByWind.2.1 17 = .ok (.getfield 34, 3) := by decide +kernel
theorem dX11_landingByWind_20 : decode kX11_landingByWind.2.1 20 = .ok (.iload_n 1, 1) := by decide +kernel
theorem dX11_landingByWind_21 : decode kX11_landingByWind.2.1 21 = .ok (.invokevirtual 135, 3) := by decide +kernel
theorem dX11_landingByWind_24 : decode kX11_landingByWind.2.1 24 = .ok (.iload 4, 2) := by decide +kernel
theorem dX11_landingByWind_26 : decode kX11_landingByWind.2.1 26 = .ok (.iload_n 2, 1) := by decide +kernel
theorem dX11_landingByWind_27 : decode kX11_landingByWind.2.1 27 = .ok (.iload_n 3, 1) := by decide +kernel
theorem dX11_landingByWind_28 : decode kX11_landingByWind.2.1 28 = .ok (.invokevirtual 381, 3) := by decide +kernel
theorem dX11_landingByWind_31 : decode kX11_landingByWind.2.1 31 = .ok (.ireturn, 1) := by decide +kernel
theorem dX11_strayedWinds_0 : decode kX11_strayedWinds.2.1 0 = .ok (.iconst 0, 1) := by decide +kernel
theorem dX11_strayedWinds_1 : decode kX11_strayedWinds.2.1 1 = .ok (.istore 4, 2) := by decide +kernel
theorem dX11_strayedWinds_3 : decode kX11_strayedWinds.2.1 3 = .ok (.iconst 0, 1) := by decide +kernel
theorem dX11_strayedWinds_4 : decode kX11_strayedWinds.2.1 4 = .ok (.istore 5, 2) := by decide +kernel
theorem dX11_strayedWinds_6 : decode kX11_strayedWinds.2.1 6 = .ok (.iload 5, 2) := by decide +kernel
theorem dX11_strayedWinds_8 : decode kX11_strayedWinds.2.1 8 = .ok (.bipush 10, 2) := by decide +kernel
theorem dX11_strayedWinds_10 : decode kX11_strayedWinds.2.1 10 = .ok (.if_icmp .ge 35, 3) := by decide +kernel
theorem dX11_strayedWinds_13 : decode kX11_strayedWinds.2.1 13 = .ok (.aload_n 0, 1) := by decide +kernel
theorem dX11_strayedWinds_14 : decode kX11_strayedWinds.2.1 14 = .ok (.aload_n 0, 1) := by decide +kernel
theorem dX11_strayedWinds_15 : decode kX11_strayedWinds.2.1 15 = .ok (.getfield 50, 3) := by decide +kernel
theorem dX11_strayedWinds_18 : decode kX11_strayedWinds.2.1 18 = .ok (.iload_n 1, 1) := by decide +kernel
theorem dX11_strayedWinds_19 : decode kX11_strayedWinds.2.1 19 = .ok (.aaload, 1) := by decide +kernel
theorem dX11_strayedWinds_20 : decode kX11_strayedWinds.2.1 20 = .ok (.iload_n 2, 1) := by decide +kernel
theorem dX11_strayedWinds_21 : decode kX11_strayedWinds.2.1 21 = .ok (.iload_n 3, 1) := by decide +kernel
theorem dX11_strayedWinds_22 : decode kX11_strayedWinds.2.1 22 = .ok (.iload 5, 2) := by decide +kernel
theorem dX11_strayedWinds_24 : decode kX11_strayedWinds.2.1 24 = .ok (.invokevirtual 436, 3) := by decide +kernel
theorem dX11_strayedWinds_27 : decode kX11_strayedWinds.2.1 27 = .ok (.ifCond .eq 12, 3) := by decide +kernel
theorem dX11_strayedWinds_30 : decode kX11_strayedWinds.2.1 30 = .ok (.iload 4, 2) := by decide +kernel
theorem dX11_strayedWinds_32 : decode kX11_strayedWinds.2.1 32 = .ok (.iconst 1, 1) := by decide +kernel
theorem dX11_strayedWinds_33 : decode kX11_strayedWinds.2.1 33 = .ok (.iload 5, 2) := by decide +kernel
theorem dX11_strayedWinds_35 : decode kX11_strayedWinds.2.1 35 = .ok (.ishl, 1) := by decide +kernel
theorem dX11_strayedWinds_36 : decode kX11_strayedWinds.2.1 36 = .ok (.ior, 1) := by decide +kernel
theorem dX11_strayedWinds_37 : decode kX11_strayedWinds.2.1 37 = .ok (.istore 4, 2) := by decide +kernel
theorem dX11_strayedWinds_39 : decode kX11_strayedWinds.2.1 39 = .ok (.iinc 5 1, 3) := by decide +kernel
theorem dX11_strayedWinds_42 : decode kX11_strayedWinds.2.1 42 = .ok (.goto (-36), 3) := by decide +kernel
theorem dX11_strayedWinds_45 : decode kX11_strayedWinds.2.1 45 = .ok (.iload 4, 2) := by decide +kernel
theorem dX11_strayedWinds_47 : decode kX11_strayedWinds.2.1 47 = .ok (.ireturn, 1) := by decide +kernel
theorem dX11_strayedBy_0 : decode kX11_strayedBy.2.1 0 = .ok (.iconst 0, 1) := by decide +kernel
theorem dX11_strayedBy_1 : decode kX11_strayedBy.2.1 1 = .ok (.istore 5, 2) := by decide +kernel
theorem dX11_strayedBy_3 : decode kX11_strayedBy.2.1 3 = .ok (.iload 5, 2) := by decide +kernel
theorem dX11_strayedBy_5 : decode kX11_strayedBy.2.1 5 = .ok (.aload_n 1, 1) := by decide +kernel
theorem dX11_strayedBy_6 : decode kX11_strayedBy.2.1 6 = .ok (.getfield 208, 3) := by decide +kernel
theorem dX11_strayedBy_9 : decode kX11_strayedBy.2.1 9 = .ok (.if_icmp .ge 45, 3) := by decide +kernel
theorem dX11_strayedBy_12 : decode kX11_strayedBy.2.1 12 = .ok (.aload_n 1, 1) := by decide +kernel
theorem dX11_strayedBy_13 : decode kX11_strayedBy.2.1 13 = .ok (.iload 5, 2) := by decide +kernel
theorem dX11_strayedBy_15 : decode kX11_strayedBy.2.1 15 = .ok (.invokevirtual 388, 3) := by decide +kernel
theorem dX11_strayedBy_18 : decode kX11_strayedBy.2.1 18 = .ok (.lstore 6, 2) := by decide +kernel
theorem dX11_strayedBy_20 : decode kX11_strayedBy.2.1 20 = .ok (.aload_n 0, 1) := by decide +kernel
theorem dX11_strayedBy_21 : decode kX11_strayedBy.2.1 21 = .ok (.iload_n 2, 1) := by decide +kernel
theorem dX11_strayedBy_22 : decode kX11_strayedBy.2.1 22 = .ok (.iload_n 3, 1) := by decide +kernel
theorem dX11_strayedBy_23 : decode kX11_strayedBy.2.1 23 = .ok (.lload 6, 2) := by decide +kernel
theorem dX11_strayedBy_25 : decode kX11_strayedBy.2.1 25 = .ok (.ldc2_w 434, 3) := by decide +kernel
theorem dX11_strayedBy_28 : decode kX11_strayedBy.2.1 28 = .ok (.ldiv, 1) := by decide +kernel
theorem dX11_strayedBy_29 : decode kX11_strayedBy.2.1 29 = .ok (.l2i, 1) := by decide +kernel
theorem dX11_strayedBy_30 : decode kX11_strayedBy.2.1 30 = .ok (.iload 4, 2) := by decide +kernel
theorem dX11_strayedBy_32 : decode kX11_strayedBy.2.1 32 = .ok (.invokevirtual 440, 3) := by decide +kernel
theorem dX11_strayedBy_35 : decode kX11_strayedBy.2.1 35 = .ok (.i2l, 1) := by decide +kernel
theorem dX11_strayedBy_36 : decode kX11_strayedBy.2.1 36 = .ok (.lload 6, 2) := by decide +kernel
theorem dX11_strayedBy_38 : decode kX11_strayedBy.2.1 38 = .ok (.ldc2_w 434, 3) := by decide +kernel
theorem dX11_strayedBy_41 : decode kX11_strayedBy.2.1 41 = .ok (.lrem, 1) := by decide +kernel
theorem dX11_strayedBy_42 : decode kX11_strayedBy.2.1 42 = .ok (.lcmp, 1) := by decide +kernel
theorem dX11_strayedBy_43 : decode kX11_strayedBy.2.1 43 = .ok (.ifCond .eq 5, 3) := by decide +kernel
theorem dX11_strayedBy_46 : decode kX11_strayedBy.2.1 46 = .ok (.iconst 0, 1) := by decide +kernel
theorem dX11_strayedBy_47 : decode kX11_strayedBy.2.1 47 = .ok (.ireturn, 1) := by decide +kernel
theorem dX11_strayedBy_48 : decode kX11_strayedBy.2.1 48 = .ok (.iinc 5 1, 3) := by decide +kernel
theorem dX11_strayedBy_51 : decode kX11_strayedBy.2.1 51 = .ok (.goto (-48), 3) := by decide +kernel
theorem dX11_strayedBy_54 : decode kX11_strayedBy.2.1 54 = .ok (.iconst 1, 1) := by decide +kernel
theorem dX11_strayedBy_55 : decode kX11_strayedBy.2.1 55 = .ok (.ireturn, 1) := by decide +kernel
theorem dX11_mostAlike_0 : decode kX11_mostAlike.2.1 0 = .ok (.aload_n 0, 1) := by decide +kernel
theorem dX11_mostAlike_1 : decode kX11_mostAlike.2.1 1 = .ok (.getfield 75, 3) := by decide +kernel
theorem dX11_mostAlike_4 : decode kX11_mostAlike.2.1 4 = .ok (.iconst 0, 1) := by decide +kernel
theorem dX11_mostAlike_5 : decode kX11_mostAlike.2.1 5 = .ok (.invokestatic 423, 3) := by decide +kernel
theorem dX11_mostAlike_8 : decode kX11_mostAlike.2.1 8 = .ok (.iconst 0, 1) := by decide +kernel
theorem dX11_mostAlike_9 : decode kX11_mostAlike.2.1 9 = .ok (.istore 5, 2) := by decide +kernel
theorem dX11_mostAlike_11 : decode kX11_mostAlike.2.1 11 = .ok (.iload 5, 2) := by decide +kernel
theorem dX11_mostAlike_13 : decode kX11_mostAlike.2.1 13 = .ok (.bipush 10, 2) := by decide +kernel
theorem dX11_mostAlike_15 : decode kX11_mostAlike.2.1 15 = .ok (.if_icmp .ge 33, 3) := by decide +kernel
theorem dX11_mostAlike_18 : decode kX11_mostAlike.2.1 18 = .ok (.iload_n 1, 1) := by decide +kernel
theorem dX11_mostAlike_19 : decode kX11_mostAlike.2.1 19 = .ok (.iload 5, 2) := by decide +kernel
theorem dX11_mostAlike_21 : decode kX11_mostAlike.2.1 21 = .ok (.ishr, 1) := by decide +kernel
theorem dX11_mostAlike_22 : decode kX11_mostAlike.2.1 22 = .ok (.iconst 1, 1) := by decide +kernel
theorem dX11_mostAlike_23 : decode kX11_mostAlike.2.1 23 = .ok (.iand, 1) := by decide +kernel
theorem dX11_mostAlike_24 : decode kX11_mostAlike.2.1 24 = .ok (.iconst 1, 1) := by decide +kernel
theorem dX11_mostAlike_25 : decode kX11_mostAlike.2.1 25 = .ok (.if_icmp .ne 17, 3) := by decide +kernel
theorem dX11_mostAlike_28 : decode kX11_mostAlike.2.1 28 = .ok (.aload_n 0, 1) := by decide +kernel
theorem dX11_mostAlike_29 : decode kX11_mostAlike.2.1 29 = .ok (.aload_n 0, 1) := by decide +kernel
theorem dX11_mostAlike_30 : decode kX11_mostAlike.2.1 30 = .ok (.iload_n 2, 1) := by decide +kernel
theorem dX11_mostAlike_31 : decode kX11_mostAlike.2.1 31 = .ok (.iload_n 3, 1) := by decide +kernel
theorem dX11_mostAlike_32 : decode kX11_mostAlike.2.1 32 = .ok (.iload 4, 2) := by decide +kernel
theorem dX11_mostAlike_34 : decode kX11_mostAlike.2.1 34 = .ok (.iload 5, 2) := by decide +kernel
theorem dX11_mostAlike_36 : decode kX11_mostAlike.2.1 36 = .ok (.invokevirtual 440, 3) := by decide +kernel
theorem dX11_mostAlike_39 : decode kX11_mostAlike.2.1 39 = .ok (.invokevirtual 428, 3) := by decide +kernel
theorem dX11_mostAlike_42 : decode kX11_mostAlike.2.1 42 = .ok (.iinc 5 1, 3) := by decide +kernel
theorem dX11_mostAlike_45 : decode kX11_mostAlike.2.1 45 = .ok (.goto (-34), 3) := by decide +kernel
theorem dX11_mostAlike_48 : decode kX11_mostAlike.2.1 48 = .ok (.iconst 0, 1) := by decide +kernel
theorem dX11_mostAlike_49 : decode kX11_mostAlike.2.1 49 = .ok (.istore 5, 2) := by decide +kernel
theorem dX11_mostAlike_51 : decode kX11_mostAlike.2.1 51 = .ok (.iconst 0, 1) := by decide +kernel
theorem dX11_mostAlike_52 : decode kX11_mostAlike.2.1 52 = .ok (.istore 6, 2) := by decide +kernel
theorem dX11_mostAlike_54 : decode kX11_mostAlike.2.1 54 = .ok (.iload 6, 2) := by decide +kernel
theorem dX11_mostAlike_56 : decode kX11_mostAlike.2.1 56 = .ok (.bipush 21, 2) := by decide +kernel
theorem dX11_mostAlike_58 : decode kX11_mostAlike.2.1 58 = .ok (.if_icmp .ge 23, 3) := by decide +kernel
theorem dX11_mostAlike_61 : decode kX11_mostAlike.2.1 61 = .ok (.iload 5, 2) := by decide +kernel
theorem dX11_mostAlike_63 : decode kX11_mostAlike.2.1 63 = .ok (.aload_n 0, 1) := by decide +kernel
theorem dX11_mostAlike_64 : decode kX11_mostAlike.2.1 64 = .ok (.getfield 75, 3) := by decide +kernel
theorem dX11_mostAlike_67 : decode kX11_mostAlike.2.1 67 = .ok (.iload 6, 2) := by decide +kernel
theorem dX11_mostAlike_69 : decode kX11_mostAlike.2.1 69 = .ok (.iaload, 1) := by decide +kernel
theorem dX11_mostAlike_70 : decode kX11_mostAlike.2.1 70 = .ok (.invokestatic 443, 3) := by decide +kernel
theorem dX11_mostAlike_73 : decode kX11_mostAlike.2.1 73 = .ok (.istore 5, 2) := by decide +kernel
theorem dX11_mostAlike_75 : decode kX11_mostAlike.2.1 75 = .ok (.iinc 6 1, 3) := by decide +kernel
theorem dX11_mostAlike_78 : decode kX11_mostAlike.2.1 78 = .ok (.goto (-24), 3) := by decide +kernel
theorem dX11_mostAlike_81 : decode kX11_mostAlike.2.1 81 = .ok (.iload 5, 2) := by decide +kernel
theorem dX11_mostAlike_83 : decode kX11_mostAlike.2.1 83 = .ok (.ireturn, 1) := by decide +kernel
theorem dX11_tellGains_0 : decode kX11_tellGains.2.1 0 = .ok (.aload_n 0, 1) := by decide +kernel
theorem dX11_tellGains_1 : decode kX11_tellGains.2.1 1 = .ok (.invokevirtual 300, 3) := by decide +kernel
theorem dX11_tellGains_4 : decode kX11_tellGains.2.1 4 = .ok (.iconst 0, 1) := by decide +kernel
theorem dX11_tellGains_5 : decode kX11_tellGains.2.1 5 = .ok (.istore_n 2, 1) := by decide +kernel
theorem dX11_tellGains_6 : decode kX11_tellGains.2.1 6 = .ok (.iload_n 2, 1) := by decide +kernel
theorem dX11_tellGains_7 : decode kX11_tellGains.2.1 7 = .ok (.iload_n 1, 1) := by decide +kernel
theorem dX11_tellGains_8 : decode kX11_tellGains.2.1 8 = .ok (.if_icmp .ge 88, 3) := by decide +kernel
theorem dX11_tellGains_11 : decode kX11_tellGains.2.1 11 = .ok (.iload_n 2, 1) := by decide +kernel
theorem dX11_tellGains_12 : decode kX11_tellGains.2.1 12 = .ok (.iconst 4, 1) := by decide +kernel
theorem dX11_tellGains_13 : decode kX11_tellGains.2.1 13 = .ok (.if_icmp .ge 83, 3) := by decide +kernel
theorem dX11_tellGains_16 : decode kX11_tellGains.2.1 16 = .ok (.aload_n 0, 1) := by decide +kernel
theorem dX11_tellGains_17 : decode kX11_tellGains.2.1 17 = .ok (.iload_n 2, 1) := by decide +kernel
theorem dX11_tellGains_18 : decode kX11_tellGains.2.1 18 = .ok (.invokevirtual 165, 3) := by decide +kernel
theorem dX11_tellGains_21 : decode kX11_tellGains.2.1 21 = .ok (.ifCond .eq 13, 3) := by decide +kernel
theorem dX11_tellGains_24 : decode kX11_tellGains.2.1 24 = .ok (.aload_n 0, 1) := by decide +kernel
theorem dX11_tellGains_25 : decode kX11_tellGains.2.1 25 = .ok (.getfield 27, 3) := by decide +kernel
theorem dX11_tellGains_28 : decode kX11_tellGains.2.1 28 = .ok (.getfield 336, 3) := by decide +kernel
theorem dX11_tellGains_31 : decode kX11_tellGains.2.1 31 = .ok (.goto 4, 3) := by decide +kernel
theorem dX11_tellGains_34 : decode kX11_tellGains.2.1 34 = .ok (.iconst 0, 1) := by decide +kernel
theorem dX11_tellGains_35 : decode kX11_tellGains.2.1 35 = .ok (.istore_n 3, 1) := by decide +kernel
theorem dX11_tellGains_36 : decode kX11_tellGains.2.1 36 = .ok (.iconst 0, 1) := by decide +kernel
theorem dX11_tellGains_37 : decode kX11_tellGains.2.1 37 = .ok (.istore 4, 2) := by decide +kernel
theorem dX11_tellGains_39 : decode kX11_tellGains.2.1 39 = .ok (.iload 4, 2) := by decide +kernel
theorem dX11_tellGains_41 : decode kX11_tellGains.2.1 41 = .ok (.iload_n 1, 1) := by decide +kernel
theorem dX11_tellGains_42 : decode kX11_tellGains.2.1 42 = .ok (.if_icmp .ge 48, 3) := by decide +kernel
theorem dX11_tellGains_45 : decode kX11_tellGains.2.1 45 = .ok (.iload 4, 2) := by decide +kernel
theorem dX11_tellGains_47 : decode kX11_tellGains.2.1 47 = .ok (.iconst 4, 1) := by decide +kernel
theorem dX11_tellGains_48 : decode kX11_tellGains.2.1 48 = .ok (.if_icmp .ge 42, 3) := by decide +kernel
theorem dX11_tellGains_51 : decode kX11_tellGains.2.1 51 = .ok (.aload_n 0, 1) := by decide +kernel
theorem dX11_tellGains_52 : decode kX11_tellGains.2.1 52 = .ok (.getfield 90, 3) := by decide +kernel
theorem dX11_tellGains_55 : decode kX11_tellGains.2.1 55 = .ok (.iload_n 2, 1) := by decide +kernel
theorem dX11_tellGains_56 : decode kX11_tellGains.2.1 56 = .ok (.iconst 4, 1) := by decide +kernel
theorem dX11_tellGains_57 : decode kX11_tellGains.2.1 57 = .ok (.imul, 1) := by decide +kernel
theorem dX11_tellGains_58 : decode kX11_tellGains.2.1 58 = .ok (.iload 4, 2) := by decide +kernel
theorem dX11_tellGains_60 : decode kX11_tellGains.2.1 60 = .ok (.iadd, 1) := by decide +kernel
theorem dX11_tellGains_61 : decode kX11_tellGains.2.1 61 = .ok (.aload_n 0, 1) := by decide +kernel
theorem dX11_tellGains_62 : decode kX11_tellGains.2.1 62 = .ok (.getfield 71, 3) := by decide +kernel
theorem dX11_tellGains_65 : decode kX11_tellGains.2.1 65 = .ok (.iload 4, 2) := by decide +kernel
theorem dX11_tellGains_67 : decode kX11_tellGains.2.1 67 = .ok (.aaload, 1) := by decide +kernel
theorem dX11_tellGains_68 : decode kX11_tellGains.2.1 68 = .ok (.aload_n 0, 1) := by decide +kernel
theorem dX11_tellGains_69 : decode kX11_tellGains.2.1 69 = .ok (.getfield 71, 3) := by decide +kernel
theorem dX11_tellGains_72 : decode kX11_tellGains.2.1 72 = .ok (.iload 4, 2) := by decide +kernel
theorem dX11_tellGains_74 : decode kX11_tellGains.2.1 74 = .ok (.aaload, 1) := by decide +kernel
theorem dX11_tellGains_75 : decode kX11_tellGains.2.1 75 = .ok (.iload_n 3, 1) := by decide +kernel
theorem dX11_tellGains_76 : decode kX11_tellGains.2.1 76 = .ok (.invokevirtual 240, 3) := by decide +kernel
theorem dX11_tellGains_79 : decode kX11_tellGains.2.1 79 = .ok (.iload_n 3, 1) := by decide +kernel
theorem dX11_tellGains_80 : decode kX11_tellGains.2.1 80 = .ok (.invokevirtual 230, 3) := by decide +kernel
theorem dX11_tellGains_83 : decode kX11_tellGains.2.1 83 = .ok (.iastore, 1) := by decide +kernel
theorem dX11_tellGains_84 : decode kX11_tellGains.2.1 84 = .ok (.iinc 4 1, 3) := by decide +kernel
theorem dX11_tellGains_87 : decode kX11_tellGains.2.1 87 = .ok (.goto (-48), 3) := by decide +kernel
theorem dX11_tellGains_90 : decode kX11_tellGains.2.1 90 = .ok (.iinc 2 1, 3) := by decide +kernel
theorem dX11_tellGains_93 : decode kX11_tellGains.2.1 93 = .ok (.goto (-87), 3) := by decide +kernel
theorem dX11_tellGains_96 : decode kX11_tellGains.2.1 96 = .ok (.return_, 1) := by decide +kernel
theorem dX11_bestOrder_0 : decode kX11_bestOrder.2.1 0 = .ok (.iconst (-1), 1) := by decide +kernel
theorem dX11_bestOrder_1 : decode kX11_bestOrder.2.1 1 = .ok (.istore_n 2, 1) := by decide +kernel
theorem dX11_bestOrder_2 : decode kX11_bestOrder.2.1 2 = .ok (.iconst 0, 1) := by decide +kernel
theorem dX11_bestOrder_3 : decode kX11_bestOrder.2.1 3 = .ok (.istore_n 3, 1) := by decide +kernel
theorem dX11_bestOrder_4 : decode kX11_bestOrder.2.1 4 = .ok (.iconst 1, 1) := by decide +kernel
theorem dX11_bestOrder_5 : decode kX11_bestOrder.2.1 5 = .ok (.iconst 2, 1) := by decide +kernel
theorem dX11_bestOrder_6 : decode kX11_bestOrder.2.1 6 = .ok (.iload_n 1, 1) := by decide +kernel
theorem dX11_bestOrder_7 : decode kX11_bestOrder.2.1 7 = .ok (.iconst 4, 1) := by decide +kernel
theorem dX11_bestOrder_8 : decode kX11_bestOrder.2.1 8 = .ok (.invokestatic 352, 3) := by decide +kernel
theorem dX11_bestOrder_11 : decode kX11_bestOrder.2.1 11 = .ok (.imul, 1) := by decide +kernel
theorem dX11_bestOrder_12 : decode kX11_bestOrder.2.1 12 = .ok (.ishl, 1) := by decide +kernel
theorem dX11_bestOrder_13 : decode kX11_bestOrder.2.1 13 = .ok (.istore 4, 2) := by decide +kernel
theorem dX11_bestOrder_15 : decode kX11_bestOrder.2.1 15 = .ok (.iconst 0, 1) := by decide +kernel
theorem dX11_bestOrder_16 : decode kX11_bestOrder.2.1 16 = .ok (.istore 5, 2) := by decide +kernel
theorem dX11_bestOrder_18 : decode kX11_bestOrder.2.1 18 = .ok (.iload 5, 2) := by decide +kernel
theorem dX11_bestOrder_20 : decode kX11_bestOrder.2.1 20 = .ok (.iload 4, 2) := by decide +kernel
theorem dX11_bestOrder_22 : decode kX11_bestOrder.2.1 22 = .ok (.if_icmp .ge 44, 3) := by decide +kernel
theorem dX11_bestOrder_25 : decode kX11_bestOrder.2.1 25 = .ok (.iload 5, 2) := by decide +kernel
theorem dX11_bestOrder_27 : decode kX11_bestOrder.2.1 27 = .ok (.iload_n 1, 1) := by decide +kernel
theorem dX11_bestOrder_28 : decode kX11_bestOrder.2.1 28 = .ok (.invokestatic 446, 3) := by decide +kernel
theorem dX11_bestOrder_31 : decode kX11_bestOrder.2.1 31 = .ok (.ifCond .eq 29, 3) := by decide +kernel
theorem dX11_bestOrder_34 : decode kX11_bestOrder.2.1 34 = .ok (.aload_n 0, 1) := by decide +kernel
theorem dX11_bestOrder_35 : decode kX11_bestOrder.2.1 35 = .ok (.iload 5, 2) := by decide +kernel
theorem dX11_bestOrder_37 : decode kX11_bestOrder.2.1 37 = .ok (.iload_n 1, 1) := by decide +kernel
theorem dX11_bestOrder_38 : decode kX11_bestOrder.2.1 38 = .ok (.invokevirtual 322, 3) := by decide +kernel
theorem dX11_bestOrder_41 : decode kX11_bestOrder.2.1 41 = .ok (.istore 6, 2) := by decide +kernel
theorem dX11_bestOrder_43 : decode kX11_bestOrder.2.1 43 = .ok (.iload_n 2, 1) := by decide +kernel
theorem dX11_bestOrder_44 : decode kX11_bestOrder.2.1 44 = .ok (.iconst (-1), 1) := by decide +kernel
theorem dX11_bestOrder_45 : decode kX11_bestOrder.2.1 45 = .ok (.if_icmp .eq 9, 3) := by decide +kernel
theorem dX11_bestOrder_48 : decode kX11_bestOrder.2.1 48 = .ok (.iload 6, 2) := by decide +kernel
theorem dX11_bestOrder_50 : decode kX11_bestOrder.2.1 50 = .ok (.iload_n 3, 1) := by decide +kernel
theorem dX11_bestOrder_51 : decode kX11_bestOrder.2.1 51 = .ok (.if_icmp .le 9, 3) := by decide +kernel
theorem dX11_bestOrder_54 : decode kX11_bestOrder.2.1 54 = .ok (.iload 5, 2) := by decide +kernel
theorem dX11_bestOrder_56 : decode kX11_bestOrder.2.1 56 = .ok (.istore_n 2, 1) := by decide +kernel
theorem dX11_bestOrder_57 : decode kX11_bestOrder.2.1 57 = .ok (.iload 6, 2) := by decide +kernel
theorem dX11_bestOrder_59 : decode kX11_bestOrder.2.1 59 = .ok (.istore_n 3, 1) := by decide +kernel
theorem dX11_bestOrder_60 : decode kX11_bestOrder.2.1 60 = .ok (.iinc 5 1, 3) := by decide +kernel
theorem dX11_bestOrder_63 : decode kX11_bestOrder.2.1 63 = .ok (.goto (-45), 3) := by decide +kernel
theorem dX11_bestOrder_66 : decode kX11_bestOrder.2.1 66 = .ok (.iload_n 2, 1) := by decide +kernel
theorem dX11_bestOrder_67 : decode kX11_bestOrder.2.1 67 = .ok (.ireturn, 1) := by decide +kernel
theorem dX11_turnOf_0 : decode kX11_turnOf.2.1 0 = .ok (.iload_n 0, 1) := by decide +kernel
theorem dX11_turnOf_1 : decode kX11_turnOf.2.1 1 = .ok (.iconst 2, 1) := by decide +kernel
theorem dX11_turnOf_2 : decode kX11_turnOf.2.1 2 = .ok (.iload_n 1, 1) := by decide +kernel
theorem dX11_turnOf_3 : decode kX11_turnOf.2.1 3 = .ok (.iconst 1, 1) := by decide +kernel
theorem dX11_turnOf_4 : decode kX11_turnOf.2.1 4 = .ok (.isub, 1) := by decide +kernel
theorem dX11_turnOf_5 : decode kX11_turnOf.2.1 5 = .ok (.iload_n 2, 1) := by decide +kernel
theorem dX11_turnOf_6 : decode kX11_turnOf.2.1 6 = .ok (.isub, 1) := by decide +kernel
theorem dX11_turnOf_7 : decode kX11_turnOf.2.1 7 = .ok (.imul, 1) := by decide +kernel
theorem dX11_turnOf_8 : decode kX11_turnOf.2.1 8 = .ok (.ishr, 1) := by decide +kernel
theorem dX11_turnOf_9 : decode kX11_turnOf.2.1 9 = .ok (.iconst 3, 1) := by decide +kernel
theorem dX11_turnOf_10 : decode kX11_turnOf.2.1 10 = .ok (.iand, 1) := by decide +kernel
theorem dX11_turnOf_11 : decode kX11_turnOf.2.1 11 = .ok (.ireturn, 1) := by decide +kernel
theorem dX11_isOrder_0 : decode kX11_isOrder.2.1 0 = .ok (.iconst 0, 1) := by decide +kernel
theorem dX11_isOrder_1 : decode kX11_isOrder.2.1 1 = .ok (.istore_n 2, 1) := by decide +kernel
theorem dX11_isOrder_2 : decode kX11_isOrder.2.1 2 = .ok (.iconst 0, 1) := by decide +kernel
theorem dX11_isOrder_3 : decode kX11_isOrder.2.1 3 = .ok (.istore_n 3, 1) := by decide +kernel
theorem dX11_isOrder_4 : decode kX11_isOrder.2.1 4 = .ok (.iload_n 3, 1) := by decide +kernel
theorem dX11_isOrder_5 : decode kX11_isOrder.2.1 5 = .ok (.iload_n 1, 1) := by decide +kernel
theorem dX11_isOrder_6 : decode kX11_isOrder.2.1 6 = .ok (.if_icmp .ge 20, 3) := by decide +kernel
theorem dX11_isOrder_9 : decode kX11_isOrder.2.1 9 = .ok (.iload_n 2, 1) := by decide +kernel
theorem dX11_isOrder_10 : decode kX11_isOrder.2.1 10 = .ok (.iconst 1, 1) := by decide +kernel
theorem dX11_isOrder_11 : decode kX11_isOrder.2.1 11 = .ok (.iload_n 0, 1) := by decide +kernel
theorem dX11_isOrder_12 : decode kX11_isOrder.2.1 12 = .ok (.iload_n 1, 1) := by decide +kernel
theorem dX11_isOrder_13 : decode kX11_isOrder.2.1 13 = .ok (.iload_n 3, 1) := by decide +kernel
theorem dX11_isOrder_14 : decode kX11_isOrder.2.1 14 = .ok (.invokestatic 325, 3) := by decide +kernel
theorem dX11_isOrder_17 : decode kX11_isOrder.2.1 17 = .ok (.ishl, 1) := by decide +kernel
theorem dX11_isOrder_18 : decode kX11_isOrder.2.1 18 = .ok (.ior, 1) := by decide +kernel
theorem dX11_isOrder_19 : decode kX11_isOrder.2.1 19 = .ok (.istore_n 2, 1) := by decide +kernel
theorem dX11_isOrder_20 : decode kX11_isOrder.2.1 20 = .ok (.iinc 3 1, 3) := by decide +kernel
theorem dX11_isOrder_23 : decode kX11_isOrder.2.1 23 = .ok (.goto (-19), 3) := by decide +kernel
theorem dX11_isOrder_26 : decode kX11_isOrder.2.1 26 = .ok (.iload_n 2, 1) := by decide +kernel
theorem dX11_isOrder_27 : decode kX11_isOrder.2.1 27 = .ok (.iconst 1, 1) := by decide +kernel
theorem dX11_isOrder_28 : decode kX11_isOrder.2.1 28 = .ok (.iload_n 1, 1) := by decide +kernel
theorem dX11_isOrder_29 : decode kX11_isOrder.2.1 29 = .ok (.ishl, 1) := by decide +kernel
theorem dX11_isOrder_30 : decode kX11_isOrder.2.1 30 = .ok (.iconst 1, 1) := by decide +kernel
theorem dX11_isOrder_31 : decode kX11_isOrder.2.1 31 = .ok (.isub, 1) := by decide +kernel
theorem dX11_isOrder_32 : decode kX11_isOrder.2.1 32 = .ok (.if_icmp .ne 7, 3) := by decide +kernel
theorem dX11_isOrder_35 : decode kX11_isOrder.2.1 35 = .ok (.iconst 1, 1) := by decide +kernel
theorem dX11_isOrder_36 : decode kX11_isOrder.2.1 36 = .ok (.goto 4, 3) := by decide +kernel
theorem dX11_isOrder_39 : decode kX11_isOrder.2.1 39 = .ok (.iconst 0, 1) := by decide +kernel
theorem dX11_isOrder_40 : decode kX11_isOrder.2.1 40 = .ok (.ireturn, 1) := by decide +kernel
theorem dX11_gainOf_0 : decode kX11_gainOf.2.1 0 = .ok (.iconst 0, 1) := by decide +kernel
theorem dX11_gainOf_1 : decode kX11_gainOf.2.1 1 = .ok (.istore_n 3, 1) := by decide +kernel
theorem dX11_gainOf_2 : decode kX11_gainOf.2.1 2 = .ok (.iconst 0, 1) := by decide +kernel
theorem dX11_gainOf_3 : decode kX11_gainOf.2.1 3 = .ok (.istore 4, 2) := by decide +kernel
theorem dX11_gainOf_5 : decode kX11_gainOf.2.1 5 = .ok (.iload 4, 2) := by decide +kernel
theorem dX11_gainOf_7 : decode kX11_gainOf.2.1 7 = .ok (.iload_n 2, 1) := by decide +kernel
theorem dX11_gainOf_8 : decode kX11_gainOf.2.1 8 = .ok (.if_icmp .ge 35, 3) := by decide +kernel
theorem dX11_gainOf_11 : decode kX11_gainOf.2.1 11 = .ok (.iload 4, 2) := by decide +kernel
theorem dX11_gainOf_13 : decode kX11_gainOf.2.1 13 = .ok (.iconst 4, 1) := by decide +kernel
theorem dX11_gainOf_14 : decode kX11_gainOf.2.1 14 = .ok (.if_icmp .ge 29, 3) := by decide +kernel
theorem dX11_gainOf_17 : decode kX11_gainOf.2.1 17 = .ok (.iload_n 3, 1) := by decide +kernel
theorem dX11_gainOf_18 : decode kX11_gainOf.2.1 18 = .ok (.aload_n 0, 1) := by decide +kernel
theorem dX11_gainOf_19 : decode kX11_gainOf.2.1 19 = .ok (.getfield 90, 3) := by decide +kernel
theorem dX11_gainOf_22 : decode kX11_gainOf.2.1 22 = .ok (.iload 4, 2) := by decide +kernel
theorem dX11_gainOf_24 : decode kX11_gainOf.2.1 24 = .ok (.iconst 4, 1) := by decide +kernel
theorem dX11_gainOf_25 : decode kX11_gainOf.2.1 25 = .ok (.imul, 1) := by decide +kernel
theorem dX11_gainOf_26 : decode kX11_gainOf.2.1 26 = .ok (.iload_n 1, 1) := by decide +kernel
theorem dX11_gainOf_27 : decode kX11_gainOf.2.1 27 = .ok (.iload_n 2, 1) := by decide +kernel
theorem dX11_gainOf_28 : decode kX11_gainOf.2.1 28 = .ok (.iload 4, 2) := by decide +kernel
theorem dX11_gainOf_30 : decode kX11_gainOf.2.1 30 = .ok (.invokestatic 325, 3) := by decide +kernel
theorem dX11_gainOf_33 : decode kX11_gainOf.2.1 33 = .ok (.iadd, 1) := by decide +kernel
theorem dX11_gainOf_34 : decode kX11_gainOf.2.1 34 = .ok (.iaload, 1) := by decide +kernel
theorem dX11_gainOf_35 : decode kX11_gainOf.2.1 35 = .ok (.iadd, 1) := by decide +kernel
theorem dX11_gainOf_36 : decode kX11_gainOf.2.1 36 = .ok (.istore_n 3, 1) := by decide +kernel
theorem dX11_gainOf_37 : decode kX11_gainOf.2.1 37 = .ok (.iinc 4 1, 3) := by decide +kernel
theorem dX11_gainOf_40 : decode kX11_gainOf.2.1 40 = .ok (.goto (-35), 3) := by decide +kernel
theorem dX11_gainOf_43 : decode kX11_gainOf.2.1 43 = .ok (.iload_n 3, 1) := by decide +kernel
theorem dX11_gainOf_44 : decode kX11_gainOf.2.1 44 = .ok (.ireturn, 1) := by decide +kernel
theorem dX11_eyeOpensAgainst_0 : decode kX11_eyeOpensAgainst.2.1 0 = .ok (.aload_n 1, 1) := by decide +kernel
theorem dX11_eyeOpensAgainst_1 : decode kX11_eyeOpensAgainst.2.1 1 = .ok (.iload_n 2, 1) := by decide +kernel
theorem dX11_eyeOpensAgainst_2 : decode kX11_eyeOpensAgainst.2.1 2 = .ok (.aload_n 0, 1) := by decide +kernel
theorem dX11_eyeOpensAgainst_3 : decode kX11_eyeOpensAgainst.2.1 3 = .ok (.getfield 27, 3) := by decide +kernel
theorem dX11_eyeOpensAgainst_6 : decode kX11_eyeOpensAgainst.2.1 6 = .ok (.getfield 336, 3) := by decide +kernel
theorem dX11_eyeOpensAgainst_9 : decode kX11_eyeOpensAgainst.2.1 9 = .ok (.invokevirtual 230, 3) := by decide +kernel
theorem dX11_eyeOpensAgainst_12 : decode kX11_eyeOpensAgainst.2.1 12 = .ok (.aload_n 1, 1) := by decide +kernel
theorem dX11_eyeOpensAgainst_13 : decode kX11_eyeOpensAgainst.2.1 13 = .ok (.iload_n 2, 1) := by decide +kernel
theorem dX11_eyeOpensAgainst_14 : decode kX11_eyeOpensAgainst.2.1 14 = .ok (.iconst 0, 1) := by decide +kernel
theorem dX11_eyeOpensAgainst_15 : decode kX11_eyeOpensAgainst.2.1 15 = .ok (.invokevirtual 230, 3) := by decide +kernel
theorem dX11_eyeOpensAgainst_18 : decode kX11_eyeOpensAgainst.2.1 18 = .ok (.if_icmp .gt 7, 3) := by decide +kernel
theorem dX11_eyeOpensAgainst_21 : decode kX11_eyeOpensAgainst.2.1 21 = .ok (.iconst 1, 1) := by decide +kernel
theorem dX11_eyeOpensAgainst_22 : decode kX11_eyeOpensAgainst.2.1 22 = .ok (.goto 4, 3) := by decide +kernel
theorem dX11_eyeOpensAgainst_25 : decode kX11_eyeOpensAgainst.2.1 25 = .ok (.iconst 0, 1) := by decide +kernel
theorem dX11_eyeOpensAgainst_26 : decode kX11_eyeOpensAgainst.2.1 26 = .ok (.ireturn, 1) := by decide +kernel
theorem dX11_nextHand_0 : decode kX11_nextHand.2.1 0 = .ok (.aload_n 1, 1) := by decide +kernel
theorem dX11_nextHand_1 : decode kX11_nextHand.2.1 1 = .ok (.aload_n 0, 1) := by decide +kernel
theorem dX11_nextHand_2 : decode kX11_nextHand.2.1 2 = .ok (.aload_n 1, 1) := by decide +kernel
theorem dX11_nextHand_3 : decode kX11_nextHand.2.1 3 = .ok (.iload_n 2, 1) := by decide +kernel
theorem dX11_nextHand_4 : decode kX11_nextHand.2.1 4 = .ok (.invokevirtual 332, 3) := by decide +kernel
theorem dX11_nextHand_7 : decode kX11_nextHand.2.1 7 = .ok (.ifCond .eq 13, 3) := by decide +kernel
theorem dX11_nextHand_10 : decode kX11_nextHand.2.1 10 = .ok (.aload_n 0, 1) := by decide +kernel
theorem dX11_nextHand_11 : decode kX11_nextHand.2.1 11 = .ok (.getfield 27, 3) := by decide +kernel
theorem dX11_nextHand_14 : decode kX11_nextHand.2.1 14 = .ok (.getfield 336, 3) := by decide +kernel
theorem dX11_nextHand_17 : decode kX11_nextHand.2.1 17 = .ok (.goto 4, 3) := by decide +kernel
theorem dX11_nextHand_20 : decode kX11_nextHand.2.1 20 = .ok (.iconst 0, 1) := by decide +kernel
theorem dX11_nextHand_21 : decode kX11_nextHand.2.1 21 = .ok (.invokevirtual 240, 3) := by decide +kernel
theorem dX11_nextHand_24 : decode kX11_nextHand.2.1 24 = .ok (.ireturn, 1) := by decide +kernel
