theorem dX3_wishesMet_6 : decode cX3_wishesMet 6 = .ok (.invokevirtual 58, 3) := by decide +kernel
theorem dX3_wishesMet_9 : decode cX3_wishesMet 9 = .ok (.invokestatic 62, 3) := by decide +kernel
theorem dX3_wishesMet_12 : decode cX3_wishesMet 12 = .ok (.ireturn, 1) := by decide +kernel
theorem dX3_loses_0 : decode cX3_loses 0 = .ok (.aload_n 0, 1) := by decide +kernel
theorem dX3_loses_1 : decode cX3_loses 1 = .ok (.aload_n 1, 1) := by decide +kernel
theorem dX3_loses_2 : decode cX3_loses 2 = .ok (.aload_n 0, 1) := by decide +kernel
theorem dX3_loses_3 : decode cX3_loses 3 = .ok (.getfield 55, 3) := by decide +kernel
theorem dX3_loses_6 : decode cX3_loses 6 = .ok (.invokevirtual 58, 3) := by decide +kernel
theorem dX3_loses_9 : decode cX3_loses 9 = .ok (.aload_n 0, 1) := by decide +kernel
theorem dX3_loses_10 : decode cX3_loses 10 = .ok (.aload_n 1, 1) := by decide +kernel
theorem dX3_loses_11 : decode cX3_loses 11 = .ok (.iload_n 2, 1) := by decide +kernel
theorem dX3_loses_12 : decode cX3_loses 12 = .ok (.invokevirtual 58, 3) := by decide +kernel
theorem dX3_loses_15 : decode cX3_loses 15 = .ok (.if_icmp .le 7, 3) := by decide +kernel
theorem dX3_loses_18 : decode cX3_loses 18 = .ok (.iconst 1, 1) := by decide +kernel
theorem dX3_loses_19 : decode cX3_loses 19 = .ok (.goto 4, 3) := by decide +kernel
theorem dX3_loses_22 : decode cX3_loses 22 = .ok (.iconst 0, 1) := by decide +kernel
theorem dX3_loses_23 : decode cX3_loses 23 = .ok (.ireturn, 1) := by decide +kernel
theorem dX4_init_0 : decode cX4_init 0 = .ok (.aload_n 0, 1) := by decide +kernel
theorem dX4_init_1 : decode cX4_init 1 = .ok (.invokespecial 3, 3) := by decide +kernel
theorem dX4_init_4 : decode cX4_init 4 = .ok (.aload_n 0, 1) := by decide +kernel
theorem dX4_init_5 : decode cX4_init 5 = .ok (.getstatic 9, 3) := by decide +kernel
theorem dX4_init_8 : decode cX4_init 8 = .ok (.invokevirtual 13, 3) := by decide +kernel
theorem dX4_init_11 : decode cX4_init 11 = .ok (.checkcast 14, 3) := by decide +kernel
theorem dX4_init_14 : decode cX4_init 14 = .ok (.putfield 18, 3) := by decide +kernel
theorem dX4_init_17 : decode cX4_init 17 = .ok (.return_, 1) := by decide +kernel
theorem dX4_replace_0 : decode cX4_replace 0 = .ok (.aload_n 0, 1) := by decide +kernel
theorem dX4_replace_1 : decode cX4_replace 1 = .ok (.getfield 18, 3) := by decide +kernel
theorem dX4_replace_4 : decode cX4_replace 4 = .ok (.iload_n 1, 1) := by decide +kernel
theorem dX4_replace_5 : decode cX4_replace 5 = .ok (.iaload, 1) := by decide +kernel
theorem dX4_replace_6 : decode cX4_replace 6 = .ok (.istore_n 3, 1) := by decide +kernel
theorem dX4_replace_7 : decode cX4_replace 7 = .ok (.aload_n 0, 1) := by decide +kernel
theorem dX4_replace_8 : decode cX4_replace 8 = .ok (.getfield 18, 3) := by decide +kernel
theorem dX4_replace_11 : decode cX4_replace 11 = .ok (.iload_n 1, 1) := by decide +kernel
theorem dX4_replace_12 : decode cX4_replace 12 = .ok (.iload_n 2, 1) := by decide +kernel
theorem dX4_replace_13 : decode cX4_replace 13 = .ok (.iastore, 1) := by decide +kernel
theorem dX4_replace_14 : decode cX4_replace 14 = .ok (.iload_n 3, 1) := by decide +kernel
theorem dX4_replace_15 : decode cX4_replace 15 = .ok (.ireturn, 1) := by decide +kernel
theorem dX4_firstBroken_0 : decode cX4_firstBroken 0 = .ok (.aload_n 0, 1) := by decide +kernel
theorem dX4_firstBroken_1 : decode cX4_firstBroken 1 = .ok (.aload_n 1, 1) := by decide +kernel
theorem dX4_firstBroken_2 : decode cX4_firstBroken 2 = .ok (.iload_n 2, 1) := by decide +kernel
theorem dX4_firstBroken_3 : decode cX4_firstBroken 3 = .ok (.invokevirtual 23, 3) := by decide +kernel
theorem dX4_firstBroken_6 : decode cX4_firstBroken 6 = .ok (.ifCond .eq 5, 3) := by decide +kernel
theorem dX4_firstBroken_9 : decode cX4_firstBroken 9 = .ok (.iconst 2, 1) := by decide +kernel
theorem dX4_firstBroken_10 : decode cX4_firstBroken 10 = .ok (.ireturn, 1) := by decide +kernel
theorem dX4_firstBroken_11 : decode cX4_firstBroken 11 = .ok (.aload_n 1, 1) := by decide +kernel
theorem dX4_firstBroken_12 : decode cX4_firstBroken 12 = .ok (.iload_n 2, 1) := by decide +kernel
theorem dX4_firstBroken_13 : decode cX4_firstBroken 13 = .ok (.invokevirtual 27, 3) := by decide +kernel
theorem dX4_firstBroken_16 : decode cX4_firstBroken 16 = .ok (.istore_n 3, 1) := by decide +kernel
theorem dX4_firstBroken_17 : decode cX4_firstBroken 17 = .ok (.aload_n 0, 1) := by decide +kernel
theorem dX4_firstBroken_18 : decode cX4_firstBroken 18 = .ok (.aload_n 1, 1) := by decide +kernel
theorem dX4_firstBroken_19 : decode cX4_firstBroken 19 = .ok (.iload_n 2, 1) := by decide +kernel
theorem dX4_firstBroken_20 : decode cX4_firstBroken 20 = .ok (.iload_n 3, 1) := by decide +kernel
theorem dX4_firstBroken_21 : decode cX4_firstBroken 21 = .ok (.invokevirtual 33, 3) := by decide +kernel
theorem dX4_firstBroken_24 : decode cX4_firstBroken 24 = .ok (.ifCond .eq 5, 3) := by decide +kernel
theorem dX4_firstBroken_27 : decode cX4_firstBroken 27 = .ok (.iconst 3, 1) := by decide +kernel
theorem dX4_firstBroken_28 : decode cX4_firstBroken 28 = .ok (.ireturn, 1) := by decide +kernel
theorem dX4_firstBroken_29 : decode cX4_firstBroken 29 = .ok (.aload_n 0, 1) := by decide +kernel
theorem dX4_firstBroken_30 : decode cX4_firstBroken 30 = .ok (.iload_n 3, 1) := by decide +kernel
theorem dX4_firstBroken_31 : decode cX4_firstBroken 31 = .ok (.invokevirtual 37, 3) := by decide +kernel
theorem dX4_firstBroken_34 : decode cX4_firstBroken 34 = .ok (.ifCond .eq 5, 3) := by decide +kernel
theorem dX4_firstBroken_37 : decode cX4_firstBroken 37 = .ok (.iconst 4, 1) := by decide +kernel
theorem dX4_firstBroken_38 : decode cX4_firstBroken 38 = .ok (.ireturn, 1) := by decide +kernel
theorem dX4_firstBroken_39 : decode cX4_firstBroken 39 = .ok (.aload_n 0, 1) := by decide +kernel
theorem dX4_firstBroken_40 : decode cX4_firstBroken 40 = .ok (.aload_n 1, 1) := by decide +kernel
theorem dX4_firstBroken_41 : decode cX4_firstBroken 41 = .ok (.iload_n 2, 1) := by decide +kernel
theorem dX4_firstBroken_42 : decode cX4_firstBroken 42 = .ok (.invokevirtual 41, 3) := by decide +kernel
theorem dX4_firstBroken_45 : decode cX4_firstBroken 45 = .ok (.ifCond .eq 7, 3) := by decide +kernel
theorem dX4_firstBroken_48 : decode cX4_firstBroken 48 = .ok (.iconst 5, 1) := by decide +kernel
theorem dX4_firstBroken_49 : decode cX4_firstBroken 49 = .ok (.goto 4, 3) := by decide +kernel
theorem dX4_firstBroken_52 : decode cX4_firstBroken 52 = .ok (.iconst 0, 1) := by decide +kernel
theorem dX4_firstBroken_53 : decode cX4_firstBroken 53 = .ok (.ireturn, 1) := by decide +kernel
theorem dX4_breaksDays_0 : decode cX4_breaksDays 0 = .ok (.iconst 0, 1) := by decide +kernel
theorem dX4_breaksDays_1 : decode cX4_breaksDays 1 = .ok (.istore_n 3, 1) := by decide +kernel
theorem dX4_breaksDays_2 : decode cX4_breaksDays 2 = .ok (.iconst 0, 1) := by decide +kernel
theorem dX4_breaksDays_3 : decode cX4_breaksDays 3 = .ok (.istore 4, 2) := by decide +kernel
theorem dX4_breaksDays_5 : decode cX4_breaksDays 5 = .ok (.iload 4, 2) := by decide +kernel
theorem dX4_breaksDays_7 : decode cX4_breaksDays 7 = .ok (.aload_n 1, 1) := by decide +kernel
theorem dX4_breaksDays_8 : decode cX4_breaksDays 8 = .ok (.getfield 44, 3) := by decide +kernel
theorem dX4_breaksDays_11 : decode cX4_breaksDays 11 = .ok (.if_icmp .ge 42, 3) := by decide +kernel
theorem dX4_breaksDays_14 : decode cX4_breaksDays 14 = .ok (.iload 4, 2) := by decide +kernel
theorem dX4_breaksDays_16 : decode cX4_breaksDays 16 = .ok (.iload_n 2, 1) := by decide +kernel
theorem dX4_breaksDays_17 : decode cX4_breaksDays 17 = .ok (.invokestatic 48, 3) := by decide +kernel
theorem dX4_breaksDays_20 : decode cX4_breaksDays 20 = .ok (.ifCond .eq 27, 3) := by decide +kernel
theorem dX4_breaksDays_23 : decode cX4_breaksDays 23 = .ok (.iload_n 3, 1) := by decide +kernel
theorem dX4_breaksDays_24 : decode cX4_breaksDays 24 = .ok (.aload_n 1, 1) := by decide +kernel
theorem dX4_breaksDays_25 : decode cX4_breaksDays 25 = .ok (.getfield 52, 3) := by decide +kernel
theorem dX4_breaksDays_28 : decode cX4_breaksDays 28 = .ok (.iload 4, 2) := by decide +kernel
theorem dX4_breaksDays_30 : decode cX4_breaksDays 30 = .ok (.iaload, 1) := by decide +kernel
theorem dX4_breaksDays_31 : decode cX4_breaksDays 31 = .ok (.iand, 1) := by decide +kernel
theorem dX4_breaksDays_32 : decode cX4_breaksDays 32 = .ok (.ifCond .eq 5, 3) := by decide +kernel
theorem dX4_breaksDays_35 : decode cX4_breaksDays 35 = .ok (.iconst 1, 1) := by decide +kernel
theorem dX4_breaksDays_36 : decode cX4_breaksDays 36 = .ok (.ireturn, 1) := by decide +kernel
theorem dX4_breaksDays_37 : decode cX4_breaksDays 37 = .ok (.iload_n 3, 1) := by decide +kernel
theorem dX4_breaksDays_38 : decode cX4_breaksDays 38 = .ok (.aload_n 1, 1) := by decide +kernel
theorem dX4_breaksDays_39 : decode cX4_breaksDays 39 = .ok (.getfield 52, 3) := by decide +kernel
theorem dX4_breaksDays_42 : decode cX4_breaksDays 42 = .ok (.iload 4, 2) := by decide +kernel
theorem dX4_breaksDays_44 : decode cX4_breaksDays 44 = .ok (.iaload, 1) := by decide +kernel
theorem dX4_breaksDays_45 : decode cX4_breaksDays 45 = .ok (.ior, 1) := by decide +kernel
theorem dX4_breaksDays_46 : decode cX4_breaksDays 46 = .ok (.istore_n 3, 1) := by decide +kernel
theorem dX4_breaksDays_47 : decode cX4_breaksDays 47 = .ok (.iinc 4 1, 3) := by decide +kernel
theorem dX4_breaksDays_50 : decode cX4_breaksDays 50 = .ok (.goto (-45), 3) := by decide +kernel
theorem dX4_breaksDays_53 : decode cX4_breaksDays 53 = .ok (.iconst 0, 1) := by decide +kernel
theorem dX4_breaksDays_54 : decode cX4_breaksDays 54 = .ok (.ireturn, 1) := by decide +kernel
theorem dX4_breaksRest_0 : decode cX4_breaksRest 0 = .ok (.iconst 0, 1) := by decide +kernel
theorem dX4_breaksRest_1 : decode cX4_breaksRest 1 = .ok (.istore 4, 2) := by decide +kernel
theorem dX4_breaksRest_3 : decode cX4_breaksRest 3 = .ok (.iload 4, 2) := by decide +kernel
theorem dX4_breaksRest_5 : decode cX4_breaksRest 5 = .ok (.aload_n 1, 1) := by decide +kernel
theorem dX4_breaksRest_6 : decode cX4_breaksRest 6 = .ok (.getfield 44, 3) := by decide +kernel
theorem dX4_breaksRest_9 : decode cX4_breaksRest 9 = .ok (.if_icmp .ge 60, 3) := by decide +kernel
theorem dX4_breaksRest_12 : decode cX4_breaksRest 12 = .ok (.iload 4, 2) := by decide +kernel
theorem dX4_breaksRest_14 : decode cX4_breaksRest 14 = .ok (.iload_n 2, 1) := by decide +kernel
theorem dX4_breaksRest_15 : decode cX4_breaksRest 15 = .ok (.invokestatic 48, 3) := by decide +kernel
theorem dX4_breaksRest_18 : decode cX4_breaksRest 18 = .ok (.ifCond .eq 45, 3) := by decide +kernel
theorem dX4_breaksRest_21 : decode cX4_breaksRest 21 = .ok (.aload_n 1, 1) := by decide +kernel
theorem dX4_breaksRest_22 : decode cX4_breaksRest 22 = .ok (.getfield 55, 3) := by decide +kernel
theorem dX4_breaksRest_25 : decode cX4_breaksRest 25 = .ok (.iload 4, 2) := by decide +kernel
theorem dX4_breaksRest_27 : decode cX4_breaksRest 27 = .ok (.iaload, 1) := by decide +kernel
theorem dX4_breaksRest_28 : decode cX4_breaksRest 28 = .ok (.aload_n 1, 1) := by decide +kernel
theorem dX4_breaksRest_29 : decode cX4_breaksRest 29 = .ok (.getfield 58, 3) := by decide +kernel
theorem dX4_breaksRest_32 : decode cX4_breaksRest 32 = .ok (.iload 4, 2) := by decide +kernel
theorem dX4_breaksRest_34 : decode cX4_breaksRest 34 = .ok (.iaload, 1) := by decide +kernel
theorem dX4_breaksRest_35 : decode cX4_breaksRest 35 = .ok (.iadd, 1) := by decide +kernel
theorem dX4_breaksRest_36 : decode cX4_breaksRest 36 = .ok (.istore 5, 2) := by decide +kernel
theorem dX4_breaksRest_38 : decode cX4_breaksRest 38 = .ok (.iconst 1, 1) := by decide +kernel
theorem dX4_breaksRest_39 : decode cX4_breaksRest 39 = .ok (.aload_n 0, 1) := by decide +kernel
theorem dX4_breaksRest_40 : decode cX4_breaksRest 40 = .ok (.aload_n 1, 1) := by decide +kernel
theorem dX4_breaksRest_41 : decode cX4_breaksRest 41 = .ok (.iload 4, 2) := by decide +kernel
theorem dX4_breaksRest_43 : decode cX4_breaksRest 43 = .ok (.invokevirtual 61, 3) := by decide +kernel
theorem dX4_breaksRest_46 : decode cX4_breaksRest 46 = .ok (.ishl, 1) := by decide +kernel
theorem dX4_breaksRest_47 : decode cX4_breaksRest 47 = .ok (.iconst 1, 1) := by decide +kernel
theorem dX4_breaksRest_48 : decode cX4_breaksRest 48 = .ok (.isub, 1) := by decide +kernel
theorem dX4_breaksRest_49 : decode cX4_breaksRest 49 = .ok (.iload 5, 2) := by decide +kernel
theorem dX4_breaksRest_51 : decode cX4_breaksRest 51 = .ok (.ishl, 1) := by decide +kernel
theorem dX4_breaksRest_52 : decode cX4_breaksRest 52 = .ok (.istore 6, 2) := by decide +kernel
theorem dX4_breaksRest_54 : decode cX4_breaksRest 54 = .ok (.iload_n 3, 1) := by decide +kernel
theorem dX4_breaksRest_55 : decode cX4_breaksRest 55 = .ok (.iload 6, 2) := by decide +kernel
theorem dX4_breaksRest_57 : decode cX4_breaksRest 57 = .ok (.iand, 1) := by decide +kernel
theorem dX4_breaksRest_58 : decode cX4_breaksRest 58 = .ok (.ifCond .eq 5, 3) := by decide +kernel
theorem dX4_breaksRest_61 : decode cX4_breaksRest 61 = .ok (.iconst 1, 1) := by decide +kernel
theorem dX4_breaksRest_62 : decode cX4_breaksRest 62 = .ok (.ireturn, 1) := by decide +kernel
theorem dX4_breaksRest_63 : decode cX4_breaksRest 63 = .ok (.iinc 4 1, 3) := by decide +kernel
theorem dX4_breaksRest_66 : decode cX4_breaksRest 66 = .ok (.goto (-63), 3) := by decide +kernel
theorem dX4_breaksRest_69 : decode cX4_breaksRest 69 = .ok (.iconst 0, 1) := by decide +kernel
theorem dX4_breaksRest_70 : decode cX4_breaksRest 70 = .ok (.ireturn, 1) := by decide +kernel
theorem dX4_restBehind_0 : decode cX4_restBehind 0 = .ok (.iload_n 2, 1) := by decide +kernel
theorem dX4_restBehind_1 : decode cX4_restBehind 1 = .ok (.aload_n 1, 1) := by decide +kernel
theorem dX4_restBehind_2 : decode cX4_restBehind 2 = .ok (.getfield 65, 3) := by decide +kernel
theorem dX4_restBehind_5 : decode cX4_restBehind 5 = .ok (.invokestatic 48, 3) := by decide +kernel
theorem dX4_restBehind_8 : decode cX4_restBehind 8 = .ok (.ifCond .eq 12, 3) := by decide +kernel
theorem dX4_restBehind_11 : decode cX4_restBehind 11 = .ok (.aload_n 0, 1) := by decide +kernel
theorem dX4_restBehind_12 : decode cX4_restBehind 12 = .ok (.getfield 18, 3) := by decide +kernel
theorem dX4_restBehind_15 : decode cX4_restBehind 15 = .ok (.iconst 0, 1) := by decide +kernel
theorem dX4_restBehind_16 : decode cX4_restBehind 16 = .ok (.iaload, 1) := by decide +kernel
theorem dX4_restBehind_17 : decode cX4_restBehind 17 = .ok (.goto 4, 3) := by decide +kernel
theorem dX4_restBehind_20 : decode cX4_restBehind 20 = .ok (.iconst 0, 1) := by decide +kernel
theorem dX4_restBehind_21 : decode cX4_restBehind 21 = .ok (.istore_n 3, 1) := by decide +kernel
theorem dX4_restBehind_22 : decode cX4_restBehind 22 = .ok (.aload_n 1, 1) := by decide +kernel
theorem dX4_restBehind_23 : decode cX4_restBehind 23 = .ok (.getfield 58, 3) := by decide +kernel
theorem dX4_restBehind_26 : decode cX4_restBehind 26 = .ok (.iload_n 2, 1) := by decide +kernel
theorem dX4_restBehind_27 : decode cX4_restBehind 27 = .ok (.iaload, 1) := by decide +kernel
theorem dX4_restBehind_28 : decode cX4_restBehind 28 = .ok (.iconst 2, 1) := by decide +kernel
theorem dX4_restBehind_29 : decode cX4_restBehind 29 = .ok (.if_icmp .lt 12, 3) := by decide +kernel
theorem dX4_restBehind_32 : decode cX4_restBehind 32 = .ok (.aload_n 0, 1) := by decide +kernel
theorem dX4_restBehind_33 : decode cX4_restBehind 33 = .ok (.getfield 18, 3) := by decide +kernel
theorem dX4_restBehind_36 : decode cX4_restBehind 36 = .ok (.iconst 1, 1) := by decide +kernel
theorem dX4_restBehind_37 : decode cX4_restBehind 37 = .ok (.iaload, 1) := by decide +kernel
theorem dX4_restBehind_38 : decode cX4_restBehind 38 = .ok (.goto 4, 3) := by decide +kernel
theorem dX4_restBehind_41 : decode cX4_restBehind 41 = .ok (.iconst 0, 1) := by decide +kernel
theorem dX4_restBehind_42 : decode cX4_restBehind 42 = .ok (.istore 4, 2) := by decide +kernel
theorem dX4_restBehind_44 : decode cX4_restBehind 44 = .ok (.iload_n 3, 1) := by decide +kernel
theorem dX4_restBehind_45 : decode cX4_restBehind 45 = .ok (.iload 4, 2) := by decide +kernel
theorem dX4_restBehind_47 : decode cX4_restBehind 47 = .ok (.invokestatic 68, 3) := by decide +kernel
theorem dX4_restBehind_50 : decode cX4_restBehind 50 = .ok (.ireturn, 1) := by decide +kernel
theorem dX4_breaksRow_0 : decode cX4_breaksRow 0 = .ok (.iconst 0, 1) := by decide +kernel
theorem dX4_breaksRow_1 : decode cX4_breaksRow 1 = .ok (.istore_n 2, 1) := by decide +kernel
theorem dX4_breaksRow_2 : decode cX4_breaksRow 2 = .ok (.iconst 0, 1) := by decide +kernel
theorem dX4_breaksRow_3 : decode cX4_breaksRow 3 = .ok (.istore_n 3, 1) := by decide +kernel
theorem dX4_breaksRow_4 : decode cX4_breaksRow 4 = .ok (.iload_n 3, 1) := by decide +kernel
theorem dX4_breaksRow_5 : decode cX4_breaksRow 5 = .ok (.bipush 14, 2) := by decide +kernel
theorem dX4_breaksRow_7 : decode cX4_breaksRow 7 = .ok (.if_icmp .ge 37, 3) := by decide +kernel
theorem dX4_breaksRow_10 : decode cX4_breaksRow 10 = .ok (.iload_n 3, 1) := by decide +kernel
theorem dX4_breaksRow_11 : decode cX4_breaksRow 11 = .ok (.iload_n 1, 1) := by decide +kernel
theorem dX4_breaksRow_12 : decode cX4_breaksRow 12 = .ok (.invokestatic 48, 3) := by decide +kernel
theorem dX4_breaksRow_15 : decode cX4_breaksRow 15 = .ok (.ifCond .eq 9, 3) := by decide +kernel
theorem dX4_breaksRow_18 : decode cX4_breaksRow 18 = .ok (.iload_n 2, 1) := by decide +kernel
theorem dX4_breaksRow_19 : decode cX4_breaksRow 19 = .ok (.iconst 1, 1) := by decide +kernel
theorem dX4_breaksRow_20 : decode cX4_breaksRow 20 = .ok (.iadd, 1) := by decide +kernel
theorem dX4_breaksRow_21 : decode cX4_breaksRow 21 = .ok (.goto 4, 3) := by decide +kernel
theorem dX4_breaksRow_24 : decode cX4_breaksRow 24 = .ok (.iconst 0, 1) := by decide +kernel
theorem dX4_breaksRow_25 : decode cX4_breaksRow 25 = .ok (.istore_n 2, 1) := by decide +kernel
theorem dX4_breaksRow_26 : decode cX4_breaksRow 26 = .ok (.iload_n 2, 1) := by decide +kernel
theorem dX4_breaksRow_27 : decode cX4_breaksRow 27 = .ok (.aload_n 0, 1) := by decide +kernel
theorem dX4_breaksRow_28 : decode cX4_breaksRow 28 = .ok (.getfield 18, 3) := by decide +kernel
theorem dX4_breaksRow_31 : decode cX4_breaksRow 31 = .ok (.iconst 2, 1) := by decide +kernel
theorem dX4_breaksRow_32 : decode cX4_breaksRow 32 = .ok (.iaload, 1) := by decide +kernel
theorem dX4_breaksRow_33 : decode cX4_breaksRow 33 = .ok (.if_icmp .le 5, 3) := by decide +kernel
theorem dX4_breaksRow_36 : decode cX4_breaksRow 36 = .ok (.iconst 1, 1) := by decide +kernel
theorem dX4_breaksRow_37 : decode cX4_breaksRow 37 = .ok (.ireturn, 1) := by decide +kernel
theorem dX4_breaksRow_38 : decode cX4_breaksRow 38 = .ok (.iinc 3 1, 3) := by decide +kernel
theorem dX4_breaksRow_41 : decode cX4_breaksRow 41 = .ok (.goto (-37), 3) := by decide +kernel
theorem dX4_breaksRow_44 : decode cX4_breaksRow 44 = .ok (.iconst 0, 1) := by decide +kernel
theorem dX4_breaksRow_45 : decode cX4_breaksRow 45 = .ok (.ireturn, 1) := by decide +kernel
theorem dX4_breaksWeek_0 : decode cX4_breaksWeek 0 = .ok (.iconst 0, 1) := by decide +kernel
theorem dX4_breaksWeek_1 : decode cX4_breaksWeek 1 = .ok (.istore_n 3, 1) := by decide +kernel
theorem dX4_breaksWeek_2 : decode cX4_breaksWeek 2 = .ok (.iload_n 3, 1) := by decide +kernel
theorem dX4_breaksWeek_3 : decode cX4_breaksWeek 3 = .ok (.aload_n 1, 1) := by decide +kernel
theorem dX4_breaksWeek_4 : decode cX4_breaksWeek 4 = .ok (.getfield 44, 3) := by decide +kernel
theorem dX4_breaksWeek_7 : decode cX4_breaksWeek 7 = .ok (.if_icmp .ge 57, 3) := by decide +kernel
theorem dX4_breaksWeek_10 : decode cX4_breaksWeek 10 = .ok (.iload_n 3, 1) := by decide +kernel
theorem dX4_breaksWeek_11 : decode cX4_breaksWeek 11 = .ok (.iload_n 2, 1) := by decide +kernel
theorem dX4_breaksWeek_12 : decode cX4_breaksWeek 12 = .ok (.invokestatic 48, 3) := by decide +kernel
theorem dX4_breaksWeek_15 : decode cX4_breaksWeek 15 = .ok (.ifCond .eq 43, 3) := by decide +kernel
theorem dX4_breaksWeek_18 : decode cX4_breaksWeek 18 = .ok (.aload_n 1, 1) := by decide +kernel
theorem dX4_breaksWeek_19 : decode cX4_breaksWeek 19 = .ok (.getfield 55, 3) := by decide +kernel
theorem dX4_breaksWeek_22 : decode cX4_breaksWeek 22 = .ok (.iload_n 3, 1) := by decide +kernel
theorem dX4_breaksWeek_23 : decode cX4_breaksWeek 23 = .ok (.iaload, 1) := by decide +kernel
theorem dX4_breaksWeek_24 : decode cX4_breaksWeek 24 = .ok (.istore 4, 2) := by decide +kernel
theorem dX4_breaksWeek_26 : decode cX4_breaksWeek 26 = .ok (.iload_n 2, 1) := by decide +kernel
theorem dX4_breaksWeek_27 : decode cX4_breaksWeek 27 = .ok (.aload_n 1, 1) := by decide +kernel
theorem dX4_breaksWeek_28 : decode cX4_breaksWeek 28 = .ok (.iload 4, 2) := by decide +kernel
theorem dX4_breaksWeek_30 : decode cX4_breaksWeek 30 = .ok (.iload 4, 2) := by decide +kernel
theorem dX4_breaksWeek_32 : decode cX4_breaksWeek 32 = .ok (.bipush 7, 2) := by decide +kernel
theorem dX4_breaksWeek_34 : decode cX4_breaksWeek 34 = .ok (.iadd, 1) := by decide +kernel
theorem dX4_breaksWeek_35 : decode cX4_breaksWeek 35 = .ok (.invokevirtual 74, 3) := by decide +kernel
theorem dX4_breaksWeek_38 : decode cX4_breaksWeek 38 = .ok (.iand, 1) := by decide +kernel
theorem dX4_breaksWeek_39 : decode cX4_breaksWeek 39 = .ok (.istore 5, 2) := by decide +kernel
theorem dX4_breaksWeek_41 : decode cX4_breaksWeek 41 = .ok (.aload_n 1, 1) := by decide +kernel
theorem dX4_breaksWeek_42 : decode cX4_breaksWeek 42 = .ok (.iload 5, 2) := by decide +kernel
theorem dX4_breaksWeek_44 : decode cX4_breaksWeek 44 = .ok (.invokevirtual 77, 3) := by decide +kernel
theorem dX4_breaksWeek_47 : decode cX4_breaksWeek 47 = .ok (.aload_n 0, 1) := by decide +kernel
theorem dX4_breaksWeek_48 : decode cX4_breaksWeek 48 = .ok (.getfield 18, 3) := by decide +kernel
theorem dX4_breaksWeek_51 : decode cX4_breaksWeek 51 = .ok (.iconst 3, 1) := by decide +kernel
theorem dX4_breaksWeek_52 : decode cX4_breaksWeek 52 = .ok (.iaload, 1) := by decide +kernel
theorem dX4_breaksWeek_53 : decode cX4_breaksWeek 53 = .ok (.if_icmp .le 5, 3) := by decide +kernel
theorem dX4_breaksWeek_56 : decode cX4_breaksWeek 56 = .ok (.iconst 1, 1) := by decide +kernel
theorem dX4_breaksWeek_57 : decode cX4_breaksWeek 57 = .ok (.ireturn, 1) := by decide +kernel
theorem dX4_breaksWeek_58 : decode cX4_breaksWeek 58 = .ok (.iinc 3 1, 3) := by decide +kernel
theorem dX4_breaksWeek_61 : decode cX4_breaksWeek 61 = .ok (.goto (-59), 3) := by decide +kernel
theorem dX4_breaksWeek_64 : decode cX4_breaksWeek 64 = .ok (.iconst 0, 1) := by decide +kernel
theorem dX4_breaksWeek_65 : decode cX4_breaksWeek 65 = .ok (.ireturn, 1) := by decide +kernel
theorem dX5_init_0 : decode cX5_init 0 = .ok (.aload_n 0, 1) := by decide +kernel
theorem dX5_init_1 : decode cX5_init 1 = .ok (.invokespecial 3, 3) := by decide +kernel
theorem dX5_init_4 : decode cX5_init 4 = .ok (.aload_n 0, 1) := by decide +kernel
theorem dX5_init_5 : decode cX5_init 5 = .ok (.new 9, 3) := by decide +kernel
theorem dX5_init_8 : decode cX5_init 8 = .ok (.dup, 1) := by decide +kernel
theorem dX5_init_9 : decode cX5_init 9 = .ok (.invokespecial 11, 3) := by decide +kernel
theorem dX5_init_12 : decode cX5_init 12 = .ok (.putfield 12, 3) := by decide +kernel
theorem dX5_init_15 : decode cX5_init 15 = .ok (.aload_n 0, 1) := by decide +kernel
theorem dX5_init_16 : decode cX5_init 16 = .ok (.new 16, 3) := by decide +kernel
theorem dX5_init_19 : decode cX5_init 19 = .ok (.dup, 1) := by decide +kernel
theorem dX5_init_20 : decode cX5_init 20 = .ok (.invokespecial 18, 3) := by decide +kernel
theorem dX5_init_23 : decode cX5_init 23 = .ok (.putfield 19, 3) := by decide +kernel
theorem dX5_init_26 : decode cX5_init 26 = .ok (.aload_n 0, 1) := by decide +kernel
theorem dX5_init_27 : decode cX5_init 27 = .ok (.new 23, 3) := by decide +kernel
theorem dX5_init_30 : decode cX5_init 30 = .ok (.dup, 1) := by decide +kernel
theorem dX5_init_31 : decode cX5_init 31 = .ok (.invokespecial 25, 3) := by decide +kernel
theorem dX5_init_34 : decode cX5_init 34 = .ok (.putfield 26, 3) := by decide +kernel
theorem dX5_init_37 : decode cX5_init 37 = .ok (.aload_n 0, 1) := by decide +kernel
theorem dX5_init_38 : decode cX5_init 38 = .ok (.new 30, 3) := by decide +kernel
theorem dX5_init_41 : decode cX5_init 41 = .ok (.dup, 1) := by decide +kernel
theorem dX5_init_42 : decode cX5_init 42 = .ok (.aload_n 0, 1) := by decide +kernel
theorem dX5_init_43 : decode cX5_init 43 = .ok (.getfield 12, 3) := by decide +kernel
theorem dX5_init_46 : decode cX5_init 46 = .ok (.aload_n 0, 1) := by decide +kernel
theorem dX5_init_47 : decode cX5_init 47 = .ok (.getfield 19, 3) := by decide +kernel
theorem dX5_init_50 : decode cX5_init 50 = .ok (.aload_n 0, 1) := by decide +kernel
theorem dX5_init_51 : decode cX5_init 51 = .ok (.getfield 26, 3) := by decide +kernel
theorem dX5_init_54 : decode cX5_init 54 = .ok (.invokespecial 32, 3) := by decide +kernel
theorem dX5_init_57 : decode cX5_init 57 = .ok (.putfield 35, 3) := by decide +kernel
theorem dX5_init_60 : decode cX5_init 60 = .ok (.return_, 1) := by decide +kernel
theorem dX5_duty_0 : decode cX5_duty 0 = .ok (.iload_n 2, 1) := by decide +kernel
theorem dX5_duty_1 : decode cX5_duty 1 = .ok (.iconst 1, 1) := by decide +kernel
theorem dX5_duty_2 : decode cX5_duty 2 = .ok (.iconst 3, 1) := by decide +kernel
theorem dX5_duty_3 : decode cX5_duty 3 = .ok (.invokestatic 39, 3) := by decide +kernel
theorem dX5_duty_6 : decode cX5_duty 6 = .ok (.ifCond .eq 23, 3) := by decide +kernel
theorem dX5_duty_9 : decode cX5_duty 9 = .ok (.iload_n 3, 1) := by decide +kernel
theorem dX5_duty_10 : decode cX5_duty 10 = .ok (.iconst 1, 1) := by decide +kernel
theorem dX5_duty_11 : decode cX5_duty 11 = .ok (.bipush 40, 2) := by decide +kernel
theorem dX5_duty_13 : decode cX5_duty 13 = .ok (.invokestatic 39, 3) := by decide +kernel
theorem dX5_duty_16 : decode cX5_duty 16 = .ok (.ifCond .eq 13, 3) := by decide +kernel
theorem dX5_duty_19 : decode cX5_duty 19 = .ok (.iload 5, 2) := by decide +kernel
theorem dX5_duty_21 : decode cX5_duty 21 = .ok (.iconst 0, 1) := by decide +kernel
theorem dX5_duty_22 : decode cX5_duty 22 = .ok (.iconst 1, 1) := by decide +kernel
theorem dX5_duty_23 : decode cX5_duty 23 = .ok (.invokestatic 39, 3) := by decide +kernel
theorem dX5_duty_26 : decode cX5_duty 26 = .ok (.ifCond .ne 6, 3) := by decide +kernel
theorem dX5_duty_29 : decode cX5_duty 29 = .ok (.bipush (-2), 2) := by decide +kernel
theorem dX5_duty_31 : decode cX5_duty 31 = .ok (.ireturn, 1) := by decide +kernel
theorem dX5_duty_32 : decode cX5_duty 32 = .ok (.iload_n 1, 1) := by decide +kernel
theorem dX5_duty_33 : decode cX5_duty 33 = .ok (.invokestatic 43, 3) := by decide +kernel
theorem dX5_duty_36 : decode cX5_duty 36 = .ok (.ifCond .eq 24, 3) := by decide +kernel
theorem dX5_duty_39 : decode cX5_duty 39 = .ok (.iload_n 1, 1) := by decide +kernel
theorem dX5_duty_40 : decode cX5_duty 40 = .ok (.iload_n 2, 1) := by decide +kernel
theorem dX5_duty_41 : decode cX5_duty 41 = .ok (.iadd, 1) := by decide +kernel
theorem dX5_duty_42 : decode cX5_duty 42 = .ok (.iconst 1, 1) := by decide +kernel
theorem dX5_duty_43 : decode cX5_duty 43 = .ok (.isub, 1) := by decide +kernel
theorem dX5_duty_44 : decode cX5_duty 44 = .ok (.invokestatic 43, 3) := by decide +kernel
theorem dX5_duty_47 : decode cX5_duty 47 = .ok (.ifCond .eq 13, 3) := by decide +kernel
theorem dX5_duty_50 : decode cX5_duty 50 = .ok (.iload 4, 2) := by decide +kernel
theorem dX5_duty_52 : decode cX5_duty 52 = .ok (.iconst 0, 1) := by decide +kernel
theorem dX5_duty_53 : decode cX5_duty 53 = .ok (.iconst 3, 1) := by decide +kernel
theorem dX5_duty_54 : decode cX5_duty 54 = .ok (.invokestatic 39, 3) := by decide +kernel
theorem dX5_duty_57 : decode cX5_duty 57 = .ok (.ifCond .ne 5, 3) := by decide +kernel
theorem dX5_duty_60 : decode cX5_duty 60 = .ok (.iconst (-1), 1) := by decide +kernel
theorem dX5_duty_61 : decode cX5_duty 61 = .ok (.ireturn, 1) := by decide +kernel
theorem dX5_duty_62 : decode cX5_duty 62 = .ok (.aload_n 0, 1) := by decide +kernel
theorem dX5_duty_63 : decode cX5_duty 63 = .ok (.getfield 12, 3) := by decide +kernel
theorem dX5_duty_66 : decode cX5_duty 66 = .ok (.getfield 47, 3) := by decide +kernel
theorem dX5_duty_69 : decode cX5_duty 69 = .ok (.bipush 9, 2) := by decide +kernel
theorem dX5_duty_71 : decode cX5_duty 71 = .ok (.if_icmp .lt 6, 3) := by decide +kernel
theorem dX5_duty_74 : decode cX5_duty 74 = .ok (.bipush (-4), 2) := by decide +kernel
theorem dX5_duty_76 : decode cX5_duty 76 = .ok (.ireturn, 1) := by decide +kernel
theorem dX5_duty_77 : decode cX5_duty 77 = .ok (.aload_n 0, 1) := by decide +kernel
theorem dX5_duty_78 : decode cX5_duty 78 = .ok (.invokevirtual 51, 3) := by decide +kernel
theorem dX5_duty_81 : decode cX5_duty 81 = .ok (.aload_n 0, 1) := by decide +kernel
theorem dX5_duty_82 : decode cX5_duty 82 = .ok (.getfield 12, 3) := by decide +kernel
theorem dX5_duty_85 : decode cX5_duty 85 = .ok (.iload_n 1, 1) := by decide +kernel
theorem dX5_duty_86 : decode cX5_duty 86 = .ok (.iload_n 2, 1) := by decide +kernel
theorem dX5_duty_87 : decode cX5_duty 87 = .ok (.iload_n 3, 1) := by decide +kernel
theorem dX5_duty_88 : decode cX5_duty 88 = .ok (.iload 4, 2) := by decide +kernel
theorem dX5_duty_90 : decode cX5_duty 90 = .ok (.iload 5, 2) := by decide +kernel
theorem dX5_duty_92 : decode cX5_duty 92 = .ok (.iconst 1, 1) := by decide +kernel
theorem dX5_duty_93 : decode cX5_duty 93 = .ok (.if_icmp .ne 7, 3) := by decide +kernel
theorem dX5_duty_96 : decode cX5_duty 96 = .ok (.iconst 1, 1) := by decide +kernel
theorem dX5_duty_97 : decode cX5_duty 97 = .ok (.goto 4, 3) := by decide +kernel
theorem dX5_duty_100 : decode cX5_duty 100 = .ok (.iconst 0, 1) := by decide +kernel
theorem dX5_duty_101 : decode cX5_duty 101 = .ok (.invokevirtual 54, 3) := by decide +kernel
theorem dX5_duty_104 : decode cX5_duty 104 = .ok (.ireturn, 1) := by decide +kernel
theorem dX5_person_0 : decode cX5_person 0 = .ok (.iload_n 1, 1) := by decide +kernel
theorem dX5_person_1 : decode cX5_person 1 = .ok (.iconst 0, 1) := by decide +kernel
theorem dX5_person_2 : decode cX5_person 2 = .ok (.bipush 15, 2) := by decide +kernel
theorem dX5_person_4 : decode cX5_person 4 = .ok (.invokestatic 39, 3) := by decide +kernel
theorem dX5_person_7 : decode cX5_person 7 = .ok (.ifCond .eq 14, 3) := by decide +kernel
theorem dX5_person_10 : decode cX5_person 10 = .ok (.iload_n 2, 1) := by decide +kernel
theorem dX5_person_11 : decode cX5_person 11 = .ok (.iconst 0, 1) := by decide +kernel
theorem dX5_person_12 : decode cX5_person 12 = .ok (.sipush 200, 3) := by decide +kernel
theorem dX5_person_15 : decode cX5_person 15 = .ok (.invokestatic 39, 3) := by decide +kernel
theorem dX5_person_18 : decode cX5_person 18 = .ok (.ifCond .ne 6, 3) := by decide +kernel
theorem dX5_person_21 : decode cX5_person 21 = .ok (.bipush (-2), 2) := by decide +kernel
theorem dX5_person_23 : decode cX5_person 23 = .ok (.ireturn, 1) := by decide +kernel
theorem dX5_person_24 : decode cX5_person 24 = .ok (.aload_n 0, 1) := by decide +kernel
theorem dX5_person_25 : decode cX5_person 25 = .ok (.getfield 26, 3) := by decide +kernel
theorem dX5_person_28 : decode cX5_person 28 = .ok (.getfield 58, 3) := by decide +kernel
theorem dX5_person_31 : decode cX5_person 31 = .ok (.iconst 4, 1) := by decide +kernel
theorem dX5_person_32 : decode cX5_person 32 = .ok (.if_icmp .lt 6, 3) := by decide +kernel
theorem dX5_person_35 : decode cX5_person 35 = .ok (.bipush (-4), 2) := by decide +kernel
theorem dX5_person_37 : decode cX5_person 37 = .ok (.ireturn, 1) := by decide +kernel
theorem dX5_person_38 : decode cX5_person 38 = .ok (.aload_n 0, 1) := by decide +kernel
theorem dX5_person_39 : decode cX5_person 39 = .ok (.invokevirtual 51, 3) := by decide +kernel
theorem dX5_person_42 : decode cX5_person 42 = .ok (.aload_n 0, 1) := by decide +kernel
theorem dX5_person_43 : decode cX5_person 43 = .ok (.getfield 26, 3) := by decide +kernel
theorem dX5_person_46 : decode cX5_person 46 = .ok (.iload_n 1, 1) := by decide +kernel
theorem dX5_person_47 : decode cX5_person 47 = .ok (.iload_n 2, 1) := by decide +kernel
theorem dX5_person_48 : decode cX5_person 48 = .ok (.invokevirtual 59, 3) := by decide +kernel
theorem dX5_person_51 : decode cX5_person 51 = .ok (.ireturn, 1) := by decide +kernel
theorem dX5_rule_0 : decode cX5_rule 0 = .ok (.iload_n 1, 1) := by decide +kernel
theorem dX5_rule_1 : decode cX5_rule 1 = .ok (.iconst 0, 1) := by decide +kernel
theorem dX5_rule_2 : decode cX5_rule 2 = .ok (.iconst 3, 1) := by decide +kernel
theorem dX5_rule_3 : decode cX5_rule 3 = .ok (.invokestatic 39, 3) := by decide +kernel
theorem dX5_rule_6 : decode cX5_rule 6 = .ok (.ifCond .ne 5, 3) := by decide +kernel
theorem dX5_rule_9 : decode cX5_rule 9 = .ok (.iconst (-1), 1) := by decide +kernel
theorem dX5_rule_10 : decode cX5_rule 10 = .ok (.ireturn, 1) := by decide +kernel
theorem dX5_rule_11 : decode cX5_rule 11 = .ok (.iload_n 2, 1) := by decide +kernel
theorem dX5_rule_12 : decode cX5_rule 12 = .ok (.getstatic 62, 3) := by decide +kernel
theorem dX5_rule_15 : decode cX5_rule 15 = .ok (.iload_n 1, 1) := by decide +kernel
theorem dX5_rule_16 : decode cX5_rule 16 = .ok (.iaload, 1) := by decide +kernel
theorem dX5_rule_17 : decode cX5_rule 17 = .ok (.getstatic 66, 3) := by decide +kernel
theorem dX5_rule_20 : decode cX5_rule 20 = .ok (.iload_n 1, 1) := by decide +kernel
theorem dX5_rule_21 : decode cX5_rule 21 = .ok (.iaload, 1) := by decide +kernel
theorem dX5_rule_22 : decode cX5_rule 22 = .ok (.invokestatic 39, 3) := by decide +kernel
theorem dX5_rule_25 : decode cX5_rule 25 = .ok (.ifCond .ne 6, 3) := by decide +kernel
theorem dX5_rule_28 : decode cX5_rule 28 = .ok (.bipush (-2), 2) := by decide +kernel
theorem dX5_rule_30 : decode cX5_rule 30 = .ok (.ireturn, 1) := by decide +kernel
theorem dX5_rule_31 : decode cX5_rule 31 = .ok (.aload_n 0, 1) := by decide +kernel
theorem dX5_rule_32 : decode cX5_rule 32 = .ok (.invokevirtual 51, 3) := by decide +kernel
theorem dX5_rule_35 : decode cX5_rule 35 = .ok (.aload_n 0, 1) := by decide +kernel
theorem dX5_rule_36 : decode cX5_rule 36 = .ok (.getfield 19, 3) := by decide +kernel
theorem dX5_rule_39 : decode cX5_rule 39 = .ok (.iload_n 1, 1) := by decide +kernel
theorem dX5_rule_40 : decode cX5_rule 40 = .ok (.iload_n 2, 1) := by decide +kernel
theorem dX5_rule_41 : decode cX5_rule 41 = .ok (.invokevirtual 69, 3) := by decide +kernel
theorem dX5_rule_44 : decode cX5_rule 44 = .ok (.ireturn, 1) := by decide +kernel
theorem dX5_wish_0 : decode cX5_wish 0 = .ok (.aload_n 0, 1) := by decide +kernel
theorem dX5_wish_1 : decode cX5_wish 1 = .ok (.getfield 26, 3) := by decide +kernel
theorem dX5_wish_4 : decode cX5_wish 4 = .ok (.iload_n 1, 1) := by decide +kernel
theorem dX5_wish_5 : decode cX5_wish 5 = .ok (.invokevirtual 72, 3) := by decide +kernel
theorem dX5_wish_8 : decode cX5_wish 8 = .ok (.ifCond .eq 12, 3) := by decide +kernel
theorem dX5_wish_11 : decode cX5_wish 11 = .ok (.iload_n 2, 1) := by decide +kernel
theorem dX5_wish_12 : decode cX5_wish 12 = .ok (.iconst 0, 1) := by decide +kernel
theorem dX5_wish_13 : decode cX5_wish 13 = .ok (.iconst 5, 1) := by decide +kernel
theorem dX5_wish_14 : decode cX5_wish 14 = .ok (.invokestatic 39, 3) := by decide +kernel
theorem dX5_wish_17 : decode cX5_wish 17 = .ok (.ifCond .ne 5, 3) := by decide +kernel
theorem dX5_wish_20 : decode cX5_wish 20 = .ok (.iconst (-1), 1) := by decide +kernel
theorem dX5_wish_21 : decode cX5_wish 21 = .ok (.ireturn, 1) := by decide +kernel
theorem dX5_wish_22 : decode cX5_wish 22 = .ok (.iload_n 2, 1) := by decide +kernel
theorem dX5_wish_23 : decode cX5_wish 23 = .ok (.ifCond .eq 8, 3) := by decide +kernel
theorem dX5_wish_26 : decode cX5_wish 26 = .ok (.iload_n 2, 1) := by decide +kernel
theorem dX5_wish_27 : decode cX5_wish 27 = .ok (.iconst 1, 1) := by decide +kernel
theorem dX5_wish_28 : decode cX5_wish 28 = .ok (.if_icmp .ne 16, 3) := by decide +kernel
theorem dX5_wish_31 : decode cX5_wish 31 = .ok (.aload_n 0, 1) := by decide +kernel
theorem dX5_wish_32 : decode cX5_wish 32 = .ok (.getfield 12, 3) := by decide +kernel
theorem dX5_wish_35 : decode cX5_wish 35 = .ok (.iload_n 3, 1) := by decide +kernel
theorem dX5_wish_36 : decode cX5_wish 36 = .ok (.invokevirtual 75, 3) := by decide +kernel
theorem dX5_wish_39 : decode cX5_wish 39 = .ok (.ifCond .ne 5, 3) := by decide +kernel
theorem dX5_wish_42 : decode cX5_wish 42 = .ok (.iconst (-1), 1) := by decide +kernel
theorem dX5_wish_43 : decode cX5_wish 43 = .ok (.ireturn, 1) := by decide +kernel
theorem dX5_wish_44 : decode cX5_wish 44 = .ok (.iload_n 2, 1) := by decide +kernel
theorem dX5_wish_45 : decode cX5_wish 45 = .ok (.iconst 2, 1) := by decide +kernel
theorem dX5_wish_46 : decode cX5_wish 46 = .ok (.if_icmp .ne 12, 3) := by decide +kernel
theorem dX5_wish_49 : decode cX5_wish 49 = .ok (.iload_n 3, 1) := by decide +kernel
theorem dX5_wish_50 : decode cX5_wish 50 = .ok (.invokestatic 43, 3) := by decide +kernel
theorem dX5_wish_53 : decode cX5_wish 53 = .ok (.ifCond .ne 5, 3) := by decide +kernel
theorem dX5_wish_56 : decode cX5_wish 56 = .ok (.iconst (-1), 1) := by decide +kernel
theorem dX5_wish_57 : decode cX5_wish 57 = .ok (.ireturn, 1) := by decide +kernel
theorem dX5_wish_58 : decode cX5_wish 58 = .ok (.iload_n 2, 1) := by decide +kernel
theorem dX5_wish_59 : decode cX5_wish 59 = .ok (.iconst 3, 1) := by decide +kernel
theorem dX5_wish_60 : decode cX5_wish 60 = .ok (.if_icmp .ne 10, 3) := by decide +kernel
theorem dX5_wish_63 : decode cX5_wish 63 = .ok (.iload_n 3, 1) := by decide +kernel
theorem dX5_wish_64 : decode cX5_wish 64 = .ok (.ifCond .eq 6, 3) := by decide +kernel
theorem dX5_wish_67 : decode cX5_wish 67 = .ok (.bipush (-2), 2) := by decide +kernel
theorem dX5_wish_69 : decode cX5_wish 69 = .ok (.ireturn, 1) := by decide +kernel
theorem dX5_wish_70 : decode cX5_wish 70 = .ok (.iload_n 2, 1) := by decide +kernel
theorem dX5_wish_71 : decode cX5_wish 71 = .ok (.iconst 4, 1) := by decide +kernel
theorem dX5_wish_72 : decode cX5_wish 72 = .ok (.if_icmp .eq 8, 3) := by decide +kernel
theorem dX5_wish_75 : decode cX5_wish 75 = .ok (.iload_n 2, 1) := by decide +kernel
theorem dX5_wish_76 : decode cX5_wish 76 = .ok (.iconst 5, 1) := by decide +kernel
theorem dX5_wish_77 : decode cX5_wish 77 = .ok (.if_icmp .ne 17, 3) := by decide +kernel
theorem dX5_wish_80 : decode cX5_wish 80 = .ok (.iload_n 3, 1) := by decide +kernel
theorem dX5_wish_81 : decode cX5_wish 81 = .ok (.iconst 0, 1) := by decide +kernel
theorem dX5_wish_82 : decode cX5_wish 82 = .ok (.sipush 200, 3) := by decide +kernel
theorem dX5_wish_85 : decode cX5_wish 85 = .ok (.invokestatic 39, 3) := by decide +kernel
theorem dX5_wish_88 : decode cX5_wish 88 = .ok (.ifCond .ne 6, 3) := by decide +kernel
theorem dX5_wish_91 : decode cX5_wish 91 = .ok (.bipush (-2), 2) := by decide +kernel
theorem dX5_wish_93 : decode cX5_wish 93 = .ok (.ireturn, 1) := by decide +kernel
theorem dX5_wish_94 : decode cX5_wish 94 = .ok (.aload_n 0, 1) := by decide +kernel
theorem dX5_wish_95 : decode cX5_wish 95 = .ok (.getfield 26, 3) := by decide +kernel
theorem dX5_wish_98 : decode cX5_wish 98 = .ok (.getfield 76, 3) := by decide +kernel
theorem dX5_wish_101 : decode cX5_wish 101 = .ok (.iload_n 1, 1) := by decide +kernel
theorem dX5_wish_102 : decode cX5_wish 102 = .ok (.aaload, 1) := by decide +kernel
theorem dX5_wish_103 : decode cX5_wish 103 = .ok (.astore 4, 2) := by decide +kernel
theorem dX5_wish_105 : decode cX5_wish 105 = .ok (.aload 4, 2) := by decide +kernel
theorem dX5_wish_107 : decode cX5_wish 107 = .ok (.getfield 80, 3) := by decide +kernel
theorem dX5_wish_110 : decode cX5_wish 110 = .ok (.iconst 5, 1) := by decide +kernel
theorem dX5_wish_111 : decode cX5_wish 111 = .ok (.if_icmp .lt 6, 3) := by decide +kernel
theorem dX5_wish_114 : decode cX5_wish 114 = .ok (.bipush (-4), 2) := by decide +kernel
theorem dX5_wish_116 : decode cX5_wish 116 = .ok (.ireturn, 1) := by decide +kernel
theorem dX5_wish_117 : decode cX5_wish 117 = .ok (.aload_n 0, 1) := by decide +kernel
theorem dX5_wish_118 : decode cX5_wish 118 = .ok (.iconst 0, 1) := by decide +kernel
theorem dX5_wish_119 : decode cX5_wish 119 = .ok (.putfield 85, 3) := by decide +kernel
theorem dX5_wish_122 : decode cX5_wish 122 = .ok (.aload 4, 2) := by decide +kernel
theorem dX5_wish_124 : decode cX5_wish 124 = .ok (.iload_n 2, 1) := by decide +kernel
theorem dX5_wish_125 : decode cX5_wish 125 = .ok (.iload_n 3, 1) := by decide +kernel
theorem dX5_wish_126 : decode cX5_wish 126 = .ok (.invokevirtual 89, 3) := by decide +kernel
theorem dX5_wish_129 : decode cX5_wish 129 = .ok (.ireturn, 1) := by decide +kernel
theorem dX5_why_0 : decode cX5_why 0 = .ok (.aload_n 0, 1) := by decide +kernel
theorem dX5_why_1 : decode cX5_why 1 = .ok (.getfield 26, 3) := by decide +kernel
theorem dX5_why_4 : decode cX5_why 4 = .ok (.iload_n 1, 1) := by decide +kernel
theorem dX5_why_5 : decode cX5_why 5 = .ok (.invokevirtual 72, 3) := by decide +kernel
theorem dX5_why_8 : decode cX5_why 8 = .ok (.ifCond .ne 5, 3) := by decide +kernel
theorem dX5_why_11 : decode cX5_why 11 = .ok (.iconst (-1), 1) := by decide +kernel
theorem dX5_why_12 : decode cX5_why 12 = .ok (.ireturn, 1) := by decide +kernel
theorem dX5_why_13 : decode cX5_why 13 = .ok (.aload_n 0, 1) := by decide +kernel
theorem dX5_why_14 : decode cX5_why 14 = .ok (.getfield 12, 3) := by decide +kernel
theorem dX5_why_17 : decode cX5_why 17 = .ok (.iload_n 2, 1) := by decide +kernel
theorem dX5_why_18 : decode cX5_why 18 = .ok (.invokevirtual 92, 3) := by decide +kernel
theorem dX5_why_21 : decode cX5_why 21 = .ok (.ifCond .ne 6, 3) := by decide +kernel
theorem dX5_why_24 : decode cX5_why 24 = .ok (.bipush (-2), 2) := by decide +kernel
theorem dX5_why_26 : decode cX5_why 26 = .ok (.ireturn, 1) := by decide +kernel
theorem dX5_why_27 : decode cX5_why 27 = .ok (.aload_n 0, 1) := by decide +kernel
theorem dX5_why_28 : decode cX5_why 28 = .ok (.getfield 26, 3) := by decide +kernel
theorem dX5_why_31 : decode cX5_why 31 = .ok (.getfield 76, 3) := by decide +kernel
theorem dX5_why_34 : decode cX5_why 34 = .ok (.iload_n 1, 1) := by decide +kernel
theorem dX5_why_35 : decode cX5_why 35 = .ok (.aaload, 1) := by decide +kernel
theorem dX5_why_36 : decode cX5_why 36 = .ok (.astore_n 3, 1) := by decide +kernel
theorem dX5_why_37 : decode cX5_why 37 = .ok (.aload_n 3, 1) := by decide +kernel
theorem dX5_why_38 : decode cX5_why 38 = .ok (.aload_n 0, 1) := by decide +kernel
theorem dX5_why_39 : decode cX5_why 39 = .ok (.getfield 12, 3) := by decide +kernel
theorem dX5_why_42 : decode cX5_why 42 = .ok (.iload_n 2, 1) := by decide +kernel
theorem dX5_why_43 : decode cX5_why 43 = .ok (.invokevirtual 95, 3) := by decide +kernel
theorem dX5_why_46 : decode cX5_why 46 = .ok (.ifCond .ne 5, 3) := by decide +kernel
theorem dX5_why_49 : decode cX5_why 49 = .ok (.iconst 1, 1) := by decide +kernel
theorem dX5_why_50 : decode cX5_why 50 = .ok (.ireturn, 1) := by decide +kernel
theorem dX5_why_51 : decode cX5_why 51 = .ok (.aload_n 0, 1) := by decide +kernel
theorem dX5_why_52 : decode cX5_why 52 = .ok (.getfield 19, 3) := by decide +kernel
theorem dX5_why_55 : decode cX5_why 55 = .ok (.aload_n 0, 1) := by decide +kernel
theorem dX5_why_56 : decode cX5_why 56 = .ok (.getfield 12, 3) := by decide +kernel
theorem dX5_why_59 : decode cX5_why 59 = .ok (.iload_n 2, 1) := by decide +kernel
theorem dX5_why_60 : decode cX5_why 60 = .ok (.invokevirtual 99, 3) := by decide +kernel
theorem dX5_why_63 : decode cX5_why 63 = .ok (.istore 4, 2) := by decide +kernel
theorem dX5_why_65 : decode cX5_why 65 = .ok (.iload 4, 2) := by decide +kernel
theorem dX5_why_67 : decode cX5_why 67 = .ok (.ifCond .eq 6, 3) := by decide +kernel
theorem dX5_why_70 : decode cX5_why 70 = .ok (.iload 4, 2) := by decide +kernel
theorem dX5_why_72 : decode cX5_why 72 = .ok (.ireturn, 1) := by decide +kernel
theorem dX5_why_73 : decode cX5_why 73 = .ok (.aload_n 3, 1) := by decide +kernel
theorem dX5_why_74 : decode cX5_why 74 = .ok (.aload_n 0, 1) := by decide +kernel
theorem dX5_why_75 : decode cX5_why 75 = .ok (.getfield 12, 3) := by decide +kernel
theorem dX5_why_78 : decode cX5_why 78 = .ok (.iload_n 2, 1) := by decide +kernel
theorem dX5_why_79 : decode cX5_why 79 = .ok (.invokevirtual 103, 3) := by decide +kernel
theorem dX5_why_82 : decode cX5_why 82 = .ok (.ifCond .eq 7, 3) := by decide +kernel
theorem dX5_why_85 : decode cX5_why 85 = .ok (.iconst 0, 1) := by decide +kernel
theorem dX5_why_86 : decode cX5_why 86 = .ok (.goto 5, 3) := by decide +kernel
theorem dX5_why_89 : decode cX5_why 89 = .ok (.bipush 6, 2) := by decide +kernel
theorem dX5_why_91 : decode cX5_why 91 = .ok (.ireturn, 1) := by decide +kernel
theorem dX5_meets_0 : decode cX5_meets 0 = .ok (.aload_n 0, 1) := by decide +kernel
theorem dX5_meets_1 : decode cX5_meets 1 = .ok (.getfield 26, 3) := by decide +kernel
theorem dX5_meets_4 : decode cX5_meets 4 = .ok (.iload_n 1, 1) := by decide +kernel
theorem dX5_meets_5 : decode cX5_meets 5 = .ok (.invokevirtual 72, 3) := by decide +kernel
theorem dX5_meets_8 : decode cX5_meets 8 = .ok (.ifCond .eq 19, 3) := by decide +kernel
theorem dX5_meets_11 : decode cX5_meets 11 = .ok (.aload_n 0, 1) := by decide +kernel
theorem dX5_meets_12 : decode cX5_meets 12 = .ok (.getfield 26, 3) := by decide +kernel
theorem dX5_meets_15 : decode cX5_meets 15 = .ok (.getfield 76, 3) := by decide +kernel
theorem dX5_meets_18 : decode cX5_meets 18 = .ok (.iload_n 1, 1) := by decide +kernel
theorem dX5_meets_19 : decode cX5_meets 19 = .ok (.aaload, 1) := by decide +kernel
theorem dX5_meets_20 : decode cX5_meets 20 = .ok (.iload_n 2, 1) := by decide +kernel
theorem dX5_meets_21 : decode cX5_meets 21 = .ok (.invokevirtual 106, 3) := by decide +kernel
theorem dX5_meets_24 : decode cX5_meets 24 = .ok (.ifCond .ne 5, 3) := by decide +kernel
theorem dX5_meets_27 : decode cX5_meets 27 = .ok (.iconst (-1), 1) := by decide +kernel
theorem dX5_meets_28 : decode cX5_meets 28 = .ok (.ireturn, 1) := by decide +kernel
theorem dX5_meets_29 : decode cX5_meets 29 = .ok (.aload_n 0, 1) := by decide +kernel
theorem dX5_meets_30 : decode cX5_meets 30 = .ok (.getfield 12, 3) := by decide +kernel
theorem dX5_meets_33 : decode cX5_meets 33 = .ok (.iload_n 3, 1) := by decide +kernel
theorem dX5_meets_34 : decode cX5_meets 34 = .ok (.invokevirtual 92, 3) := by decide +kernel
theorem dX5_meets_37 : decode cX5_meets 37 = .ok (.ifCond .ne 6, 3) := by decide +kernel
theorem dX5_meets_40 : decode cX5_meets 40 = .ok (.bipush (-2), 2) := by decide +kernel
theorem dX5_meets_42 : decode cX5_meets 42 = .ok (.ireturn, 1) := by decide +kernel
theorem dX5_meets_43 : decode cX5_meets 43 = .ok (.aload_n 0, 1) := by decide +kernel
theorem dX5_meets_44 : decode cX5_meets 44 = .ok (.getfield 26, 3) := by decide +kernel
theorem dX5_meets_47 : decode cX5_meets 47 = .ok (.getfield 76, 3) := by decide +kernel
theorem dX5_meets_50 : decode cX5_meets 50 = .ok (.iload_n 1, 1) := by decide +kernel
theorem dX5_meets_51 : decode cX5_meets 51 = .ok (.aaload, 1) := by decide +kernel
theorem dX5_meets_52 : decode cX5_meets 52 = .ok (.aload_n 0, 1) := by decide +kernel
theorem dX5_meets_53 : decode cX5_meets 53 = .ok (.getfield 12, 3) := by decide +kernel
theorem dX5_meets_56 : decode cX5_meets 56 = .ok (.iload_n 2, 1) := by decide +kernel
theorem dX5_meets_57 : decode cX5_meets 57 = .ok (.iload_n 3, 1) := by decide +kernel
theorem dX5_meets_58 : decode cX5_meets 58 = .ok (.invokevirtual 109, 3) := by decide +kernel
theorem dX5_meets_61 : decode cX5_meets 61 = .ok (.ifCond .eq 7, 3) := by decide +kernel
theorem dX5_meets_64 : decode cX5_meets 64 = .ok (.iconst 1, 1) := by decide +kernel
theorem dX5_meets_65 : decode cX5_meets 65 = .ok (.goto 4, 3) := by decide +kernel
theorem dX5_meets_68 : decode cX5_meets 68 = .ok (.iconst 0, 1) := by decide +kernel
theorem dX5_meets_69 : decode cX5_meets 69 = .ok (.ireturn, 1) := by decide +kernel
theorem dX5_lines_0 : decode cX5_lines 0 = .ok (.aload_n 0, 1) := by decide +kernel
theorem dX5_lines_1 : decode cX5_lines 1 = .ok (.getfield 26, 3) := by decide +kernel
theorem dX5_lines_4 : decode cX5_lines 4 = .ok (.iload_n 1, 1) := by decide +kernel
theorem dX5_lines_5 : decode cX5_lines 5 = .ok (.invokevirtual 72, 3) := by decide +kernel
theorem dX5_lines_8 : decode cX5_lines 8 = .ok (.ifCond .ne 5, 3) := by decide +kernel
theorem dX5_lines_11 : decode cX5_lines 11 = .ok (.iconst (-1), 1) := by decide +kernel
theorem dX5_lines_12 : decode cX5_lines 12 = .ok (.ireturn, 1) := by decide +kernel
theorem dX5_lines_13 : decode cX5_lines 13 = .ok (.aload_n 0, 1) := by decide +kernel
theorem dX5_lines_14 : decode cX5_lines 14 = .ok (.getfield 35, 3) := by decide +kernel
theorem dX5_lines_17 : decode cX5_lines 17 = .ok (.invokevirtual 113, 3) := by decide +kernel
theorem dX5_lines_20 : decode cX5_lines 20 = .ok (.iconst 0, 1) := by decide +kernel
theorem dX5_lines_21 : decode cX5_lines 21 = .ok (.istore_n 2, 1) := by decide +kernel
theorem dX5_lines_22 : decode cX5_lines 22 = .ok (.iconst 0, 1) := by decide +kernel
theorem dX5_lines_23 : decode cX5_lines 23 = .ok (.istore_n 3, 1) := by decide +kernel
theorem dX5_lines_24 : decode cX5_lines 24 = .ok (.iload_n 3, 1) := by decide +kernel
theorem dX5_lines_25 : decode cX5_lines 25 = .ok (.aload_n 0, 1) := by decide +kernel
theorem dX5_lines_26 : decode cX5_lines 26 = .ok (.getfield 12, 3) := by decide +kernel
theorem dX5_lines_29 : decode cX5_lines 29 = .ok (.invokevirtual 116, 3) := by decide +kernel
theorem dX5_lines_32 : decode cX5_lines 32 = .ok (.if_icmp .gt 24, 3) := by decide +kernel
theorem dX5_lines_35 : decode cX5_lines 35 = .ok (.aload_n 0, 1) := by decide +kernel
theorem dX5_lines_36 : decode cX5_lines 36 = .ok (.getfield 35, 3) := by decide +kernel
theorem dX5_lines_39 : decode cX5_lines 39 = .ok (.iload_n 1, 1) := by decide +kernel
theorem dX5_lines_40 : decode cX5_lines 40 = .ok (.iload_n 3, 1) := by decide +kernel
theorem dX5_lines_41 : decode cX5_lines 41 = .ok (.invokevirtual 120, 3) := by decide +kernel
theorem dX5_lines_44 : decode cX5_lines 44 = .ok (.ifCond .eq 6, 3) := by decide +kernel
theorem dX5_lines_47 : decode cX5_lines 47 = .ok (.iinc 2 1, 3) := by decide +kernel
theorem dX5_lines_50 : decode cX5_lines 50 = .ok (.iinc 3 1, 3) := by decide +kernel
theorem dX5_lines_53 : decode cX5_lines 53 = .ok (.goto (-29), 3) := by decide +kernel
theorem dX5_lines_56 : decode cX5_lines 56 = .ok (.iload_n 2, 1) := by decide +kernel
theorem dX5_lines_57 : decode cX5_lines 57 = .ok (.ireturn, 1) := by decide +kernel
theorem dX5_cover_0 : decode cX5_cover 0 = .ok (.iload_n 2, 1) := by decide +kernel
theorem dX5_cover_1 : decode cX5_cover 1 = .ok (.iconst 0, 1) := by decide +kernel
theorem dX5_cover_2 : decode cX5_cover 2 = .ok (.aload_n 0, 1) := by decide +kernel
theorem dX5_cover_3 : decode cX5_cover 3 = .ok (.getfield 26, 3) := by decide +kernel
theorem dX5_cover_6 : decode cX5_cover 6 = .ok (.getfield 58, 3) := by decide +kernel
theorem dX5_cover_9 : decode cX5_cover 9 = .ok (.invokestatic 39, 3) := by decide +kernel
theorem dX5_cover_12 : decode cX5_cover 12 = .ok (.ifCond .ne 5, 3) := by decide +kernel
theorem dX5_cover_15 : decode cX5_cover 15 = .ok (.iconst (-1), 1) := by decide +kernel
theorem dX5_cover_16 : decode cX5_cover 16 = .ok (.ireturn, 1) := by decide +kernel
theorem dX5_cover_17 : decode cX5_cover 17 = .ok (.aload_n 0, 1) := by decide +kernel
theorem dX5_cover_18 : decode cX5_cover 18 = .ok (.getfield 12, 3) := by decide +kernel
theorem dX5_cover_21 : decode cX5_cover 21 = .ok (.iload_n 1, 1) := by decide +kernel
theorem dX5_cover_22 : decode cX5_cover 22 = .ok (.invokevirtual 92, 3) := by decide +kernel
theorem dX5_cover_25 : decode cX5_cover 25 = .ok (.ifCond .ne 6, 3) := by decide +kernel
theorem dX5_cover_28 : decode cX5_cover 28 = .ok (.bipush (-2), 2) := by decide +kernel
theorem dX5_cover_30 : decode cX5_cover 30 = .ok (.ireturn, 1) := by decide +kernel
theorem dX5_cover_31 : decode cX5_cover 31 = .ok (.aload_n 0, 1) := by decide +kernel
theorem dX5_cover_32 : decode cX5_cover 32 = .ok (.getfield 35, 3) := by decide +kernel
theorem dX5_cover_35 : decode cX5_cover 35 = .ok (.invokevirtual 113, 3) := by decide +kernel
theorem dX5_cover_38 : decode cX5_cover 38 = .ok (.aload_n 0, 1) := by decide +kernel
theorem dX5_cover_39 : decode cX5_cover 39 = .ok (.getfield 35, 3) := by decide +kernel
theorem dX5_cover_42 : decode cX5_cover 42 = .ok (.aload_n 0, 1) := by decide +kernel
theorem dX5_cover_43 : decode cX5_cover 43 = .ok (.getfield 26, 3) := by decide +kernel
theorem dX5_cover_46 : decode cX5_cover 46 = .ok (.iload_n 2, 1) := by decide +kernel
theorem dX5_cover_47 : decode cX5_cover 47 = .ok (.invokevirtual 124, 3) := by decide +kernel
theorem dX5_cover_50 : decode cX5_cover 50 = .ok (.iload_n 1, 1) := by decide +kernel
theorem dX5_cover_51 : decode cX5_cover 51 = .ok (.invokevirtual 128, 3) := by decide +kernel
theorem dX5_cover_54 : decode cX5_cover 54 = .ok (.ireturn, 1) := by decide +kernel
theorem dX5_better_0 : decode cX5_better 0 = .ok (.aload_n 0, 1) := by decide +kernel
theorem dX5_better_1 : decode cX5_better 1 = .ok (.getfield 26, 3) := by decide +kernel
theorem dX5_better_4 : decode cX5_better 4 = .ok (.iload_n 1, 1) := by decide +kernel
theorem dX5_better_5 : decode cX5_better 5 = .ok (.invokevirtual 72, 3) := by decide +kernel
theorem dX5_better_8 : decode cX5_better 8 = .ok (.ifCond .ne 5, 3) := by decide +kernel
theorem dX5_better_11 : decode cX5_better 11 = .ok (.iconst (-1), 1) := by decide +kernel
theorem dX5_better_12 : decode cX5_better 12 = .ok (.ireturn, 1) := by decide +kernel
theorem dX5_better_13 : decode cX5_better 13 = .ok (.aload_n 0, 1) := by decide +kernel
theorem dX5_better_14 : decode cX5_better 14 = .ok (.getfield 12, 3) := by decide +kernel
theorem dX5_better_17 : decode cX5_better 17 = .ok (.iload_n 2, 1) := by decide +kernel
theorem dX5_better_18 : decode cX5_better 18 = .ok (.invokevirtual 92, 3) := by decide +kernel
theorem dX5_better_21 : decode cX5_better 21 = .ok (.ifCond .eq 14, 3) := by decide +kernel
theorem dX5_better_24 : decode cX5_better 24 = .ok (.aload_n 0, 1) := by decide +kernel
theorem dX5_better_25 : decode cX5_better 25 = .ok (.getfield 12, 3) := by decide +kernel
theorem dX5_better_28 : decode cX5_better 28 = .ok (.iload_n 3, 1) := by decide +kernel
theorem dX5_better_29 : decode cX5_better 29 = .ok (.invokevirtual 92, 3) := by decide +kernel
theorem dX5_better_32 : decode cX5_better 32 = .ok (.ifCond .ne 6, 3) := by decide +kernel
theorem dX5_better_35 : decode cX5_better 35 = .ok (.bipush (-2), 2) := by decide +kernel
theorem dX5_better_37 : decode cX5_better 37 = .ok (.ireturn, 1) := by decide +kernel
theorem dX5_better_38 : decode cX5_better 38 = .ok (.aload_n 0, 1) := by decide +kernel
theorem dX5_better_39 : decode cX5_better 39 = .ok (.getfield 26, 3) := by decide +kernel
theorem dX5_better_42 : decode cX5_better 42 = .ok (.getfield 76, 3) := by decide +kernel
theorem dX5_better_45 : decode cX5_better 45 = .ok (.iload_n 1, 1) := by decide +kernel
theorem dX5_better_46 : decode cX5_better 46 = .ok (.aaload, 1) := by decide +kernel
theorem dX5_better_47 : decode cX5_better 47 = .ok (.astore 4, 2) := by decide +kernel
theorem dX5_better_49 : decode cX5_better 49 = .ok (.aload 4, 2) := by decide +kernel
theorem dX5_better_51 : decode cX5_better 51 = .ok (.aload_n 0, 1) := by decide +kernel
theorem dX5_better_52 : decode cX5_better 52 = .ok (.getfield 12, 3) := by decide +kernel
theorem dX5_better_55 : decode cX5_better 55 = .ok (.iload_n 2, 1) := by decide +kernel
theorem dX5_better_56 : decode cX5_better 56 = .ok (.invokevirtual 131, 3) := by decide +kernel
theorem dX5_better_59 : decode cX5_better 59 = .ok (.istore 5, 2) := by decide +kernel
theorem dX5_better_61 : decode cX5_better 61 = .ok (.aload 4, 2) := by decide +kernel
theorem dX5_better_63 : decode cX5_better 63 = .ok (.aload_n 0, 1) := by decide +kernel
theorem dX5_better_64 : decode cX5_better 64 = .ok (.getfield 12, 3) := by decide +kernel
theorem dX5_better_67 : decode cX5_better 67 = .ok (.iload_n 3, 1) := by decide +kernel
theorem dX5_better_68 : decode cX5_better 68 = .ok (.invokevirtual 131, 3) := by decide +kernel
theorem dX5_better_71 : decode cX5_better 71 = .ok (.istore 6, 2) := by decide +kernel
theorem dX5_better_73 : decode cX5_better 73 = .ok (.iload 5, 2) := by decide +kernel
theorem dX5_better_75 : decode cX5_better 75 = .ok (.iload 6, 2) := by decide +kernel
theorem dX5_better_77 : decode cX5_better 77 = .ok (.if_icmp .eq 16, 3) := by decide +kernel
theorem dX5_better_80 : decode cX5_better 80 = .ok (.iload 5, 2) := by decide +kernel
theorem dX5_better_82 : decode cX5_better 82 = .ok (.iload 6, 2) := by decide +kernel
theorem dX5_better_84 : decode cX5_better 84 = .ok (.if_icmp .le 7, 3) := by decide +kernel
theorem dX5_better_87 : decode cX5_better 87 = .ok (.iconst 2, 1) := by decide +kernel
theorem dX5_better_88 : decode cX5_better 88 = .ok (.goto 4, 3) := by decide +kernel
theorem dX5_better_91 : decode cX5_better 91 = .ok (.iconst 0, 1) := by decide +kernel
theorem dX5_better_92 : decode cX5_better 92 = .ok (.ireturn, 1) := by decide +kernel
theorem dX5_better_93 : decode cX5_better 93 = .ok (.iload_n 2, 1) := by decide +kernel
theorem dX5_better_94 : decode cX5_better 94 = .ok (.iload_n 3, 1) := by decide +kernel
theorem dX5_better_95 : decode cX5_better 95 = .ok (.invokestatic 134, 3) := by decide +kernel
theorem dX5_better_98 : decode cX5_better 98 = .ok (.ifCond .eq 7, 3) := by decide +kernel
theorem dX5_better_101 : decode cX5_better 101 = .ok (.iconst 1, 1) := by decide +kernel
theorem dX5_better_102 : decode cX5_better 102 = .ok (.goto 4, 3) := by decide +kernel
theorem dX5_better_105 : decode cX5_better 105 = .ok (.iconst 0, 1) := by decide +kernel
theorem dX5_better_106 : decode cX5_better 106 = .ok (.ireturn, 1) := by decide +kernel
theorem dX5_give_0 : decode cX5_give 0 = .ok (.aload_n 0, 1) := by decide +kernel
theorem dX5_give_1 : decode cX5_give 1 = .ok (.getfield 35, 3) := by decide +kernel
theorem dX5_give_4 : decode cX5_give 4 = .ok (.invokevirtual 113, 3) := by decide +kernel
theorem dX5_give_7 : decode cX5_give 7 = .ok (.aload_n 0, 1) := by decide +kernel
theorem dX5_give_8 : decode cX5_give 8 = .ok (.getfield 12, 3) := by decide +kernel
theorem dX5_give_11 : decode cX5_give 11 = .ok (.invokevirtual 116, 3) := by decide +kernel
theorem dX5_give_14 : decode cX5_give 14 = .ok (.istore_n 1, 1) := by decide +kernel
theorem dX5_give_15 : decode cX5_give 15 = .ok (.iconst 0, 1) := by decide +kernel
theorem dX5_give_16 : decode cX5_give 16 = .ok (.istore_n 2, 1) := by decide +kernel
theorem dX5_give_17 : decode cX5_give 17 = .ok (.iload_n 2, 1) := by decide +kernel
theorem dX5_give_18 : decode cX5_give 18 = .ok (.aload_n 0, 1) := by decide +kernel
theorem dX5_give_19 : decode cX5_give 19 = .ok (.getfield 26, 3) := by decide +kernel
theorem dX5_give_22 : decode cX5_give 22 = .ok (.getfield 58, 3) := by decide +kernel
theorem dX5_give_25 : decode cX5_give 25 = .ok (.if_icmp .ge 58, 3) := by decide +kernel
theorem dX5_give_28 : decode cX5_give 28 = .ok (.aload_n 0, 1) := by decide +kernel
theorem dX5_give_29 : decode cX5_give 29 = .ok (.getfield 26, 3) := by decide +kernel
theorem dX5_give_32 : decode cX5_give 32 = .ok (.getfield 76, 3) := by decide +kernel
theorem dX5_give_35 : decode cX5_give 35 = .ok (.iload_n 2, 1) := by decide +kernel
theorem dX5_give_36 : decode cX5_give 36 = .ok (.aaload, 1) := by decide +kernel
theorem dX5_give_37 : decode cX5_give 37 = .ok (.astore_n 3, 1) := by decide +kernel
theorem dX5_give_38 : decode cX5_give 38 = .ok (.aload_n 3, 1) := by decide +kernel
theorem dX5_give_39 : decode cX5_give 39 = .ok (.iload_n 1, 1) := by decide +kernel
theorem dX5_give_40 : decode cX5_give 40 = .ok (.putfield 137, 3) := by decide +kernel
theorem dX5_give_43 : decode cX5_give 43 = .ok (.aload_n 3, 1) := by decide +kernel
theorem dX5_give_44 : decode cX5_give 44 = .ok (.aload_n 0, 1) := by decide +kernel
theorem dX5_give_45 : decode cX5_give 45 = .ok (.iload_n 2, 1) := by decide +kernel
theorem dX5_give_46 : decode cX5_give 46 = .ok (.iload_n 1, 1) := by decide +kernel
theorem dX5_give_47 : decode cX5_give 47 = .ok (.aload_n 0, 1) := by decide +kernel
theorem dX5_give_48 : decode cX5_give 48 = .ok (.getfield 26, 3) := by decide +kernel
theorem dX5_give_51 : decode cX5_give 51 = .ok (.iload_n 2, 1) := by decide +kernel
theorem dX5_give_52 : decode cX5_give 52 = .ok (.iconst 1, 1) := by decide +kernel
theorem dX5_give_53 : decode cX5_give 53 = .ok (.iadd, 1) := by decide +kernel
theorem dX5_give_54 : decode cX5_give 54 = .ok (.invokevirtual 124, 3) := by decide +kernel
theorem dX5_give_57 : decode cX5_give 57 = .ok (.invokevirtual 140, 3) := by decide +kernel
theorem dX5_give_60 : decode cX5_give 60 = .ok (.putfield 144, 3) := by decide +kernel
theorem dX5_give_63 : decode cX5_give 63 = .ok (.aload_n 3, 1) := by decide +kernel
theorem dX5_give_64 : decode cX5_give 64 = .ok (.iconst 0, 1) := by decide +kernel
theorem dX5_give_65 : decode cX5_give 65 = .ok (.putfield 147, 3) := by decide +kernel
theorem dX5_give_68 : decode cX5_give 68 = .ok (.iload_n 1, 1) := by decide +kernel
theorem dX5_give_69 : decode cX5_give 69 = .ok (.aload_n 3, 1) := by decide +kernel
theorem dX5_give_70 : decode cX5_give 70 = .ok (.getfield 144, 3) := by decide +kernel
theorem dX5_give_73 : decode cX5_give 73 = .ok (.iconst (-1), 1) := by decide +kernel
theorem dX5_give_74 : decode cX5_give 74 = .ok (.ixor, 1) := by decide +kernel
theorem dX5_give_75 : decode cX5_give 75 = .ok (.iand, 1) := by decide +kernel
theorem dX5_give_76 : decode cX5_give 76 = .ok (.istore_n 1, 1) := by decide +kernel
theorem dX5_give_77 : decode cX5_give 77 = .ok (.iinc 2 1, 3) := by decide +kernel
theorem dX5_give_80 : decode cX5_give 80 = .ok (.goto (-63), 3) := by decide +kernel
theorem dX5_give_83 : decode cX5_give 83 = .ok (.aload_n 0, 1) := by decide +kernel
theorem dX5_give_84 : decode cX5_give 84 = .ok (.iconst 1, 1) := by decide +kernel
theorem dX5_give_85 : decode cX5_give 85 = .ok (.putfield 85, 3) := by decide +kernel
theorem dX5_give_88 : decode cX5_give 88 = .ok (.aload_n 0, 1) := by decide +kernel
theorem dX5_give_89 : decode cX5_give 89 = .ok (.iconst 0, 1) := by decide +kernel
theorem dX5_give_90 : decode cX5_give 90 = .ok (.putfield 150, 3) := by decide +kernel
theorem dX5_give_93 : decode cX5_give 93 = .ok (.iload_n 1, 1) := by decide +kernel
theorem dX5_give_94 : decode cX5_give 94 = .ok (.invokestatic 153, 3) := by decide +kernel
theorem dX5_give_97 : decode cX5_give 97 = .ok (.ireturn, 1) := by decide +kernel
theorem dX5_line_0 : decode cX5_line 0 = .ok (.aload_n 0, 1) := by decide +kernel
theorem dX5_line_1 : decode cX5_line 1 = .ok (.getfield 26, 3) := by decide +kernel
theorem dX5_line_4 : decode cX5_line 4 = .ok (.iload_n 1, 1) := by decide +kernel
theorem dX5_line_5 : decode cX5_line 5 = .ok (.invokevirtual 72, 3) := by decide +kernel
theorem dX5_line_8 : decode cX5_line 8 = .ok (.ifCond .ne 5, 3) := by decide +kernel
theorem dX5_line_11 : decode cX5_line 11 = .ok (.iconst (-1), 1) := by decide +kernel
theorem dX5_line_12 : decode cX5_line 12 = .ok (.ireturn, 1) := by decide +kernel
theorem dX5_line_13 : decode cX5_line 13 = .ok (.aload_n 0, 1) := by decide +kernel
theorem dX5_line_14 : decode cX5_line 14 = .ok (.getfield 85, 3) := by decide +kernel
theorem dX5_line_17 : decode cX5_line 17 = .ok (.ifCond .eq 18, 3) := by decide +kernel
theorem dX5_line_20 : decode cX5_line 20 = .ok (.aload_n 0, 1) := by decide +kernel
theorem dX5_line_21 : decode cX5_line 21 = .ok (.getfield 26, 3) := by decide +kernel
theorem dX5_line_24 : decode cX5_line 24 = .ok (.getfield 76, 3) := by decide +kernel
theorem dX5_line_27 : decode cX5_line 27 = .ok (.iload_n 1, 1) := by decide +kernel
theorem dX5_line_28 : decode cX5_line 28 = .ok (.aaload, 1) := by decide +kernel
theorem dX5_line_29 : decode cX5_line 29 = .ok (.getfield 144, 3) := by decide +kernel
theorem dX5_line_32 : decode cX5_line 32 = .ok (.goto 5, 3) := by decide +kernel
theorem dX5_line_35 : decode cX5_line 35 = .ok (.bipush (-3), 2) := by decide +kernel
theorem dX5_line_37 : decode cX5_line 37 = .ok (.ireturn, 1) := by decide +kernel
theorem dX5_about_0 : decode cX5_about 0 = .ok (.aload_n 0, 1) := by decide +kernel
theorem dX5_about_1 : decode cX5_about 1 = .ok (.getfield 26, 3) := by decide +kernel
theorem dX5_about_4 : decode cX5_about 4 = .ok (.iload_n 1, 1) := by decide +kernel
theorem dX5_about_5 : decode cX5_about 5 = .ok (.invokevirtual 72, 3) := by decide +kernel
theorem dX5_about_8 : decode cX5_about 8 = .ok (.ifCond .eq 12, 3) := by decide +kernel
theorem dX5_about_11 : decode cX5_about 11 = .ok (.iload_n 2, 1) := by decide +kernel
theorem dX5_about_12 : decode cX5_about 12 = .ok (.iconst 0, 1) := by decide +kernel
theorem dX5_about_13 : decode cX5_about 13 = .ok (.iconst 4, 1) := by decide +kernel
theorem dX5_about_14 : decode cX5_about 14 = .ok (.invokestatic 39, 3) := by decide +kernel
theorem dX5_about_17 : decode cX5_about 17 = .ok (.ifCond .ne 5, 3) := by decide +kernel
theorem dX5_about_20 : decode cX5_about 20 = .ok (.iconst (-1), 1) := by decide +kernel
theorem dX5_about_21 : decode cX5_about 21 = .ok (.ireturn, 1) := by decide +kernel
theorem dX5_about_22 : decode cX5_about 22 = .ok (.aload_n 0, 1) := by decide +kernel
theorem dX5_about_23 : decode cX5_about 23 = .ok (.getfield 85, 3) := by decide +kernel
theorem dX5_about_26 : decode cX5_about 26 = .ok (.ifCond .ne 6, 3) := by decide +kernel
theorem dX5_about_29 : decode cX5_about 29 = .ok (.bipush (-3), 2) := by decide +kernel
theorem dX5_about_31 : decode cX5_about 31 = .ok (.ireturn, 1) := by decide +kernel
theorem dX5_about_32 : decode cX5_about 32 = .ok (.aload_n 0, 1) := by decide +kernel
theorem dX5_about_33 : decode cX5_about 33 = .ok (.getfield 26, 3) := by decide +kernel
theorem dX5_about_36 : decode cX5_about 36 = .ok (.getfield 76, 3) := by decide +kernel
theorem dX5_about_39 : decode cX5_about 39 = .ok (.iload_n 1, 1) := by decide +kernel
theorem dX5_about_40 : decode cX5_about 40 = .ok (.aaload, 1) := by decide +kernel
theorem dX5_about_41 : decode cX5_about 41 = .ok (.astore_n 3, 1) := by decide +kernel
theorem dX5_about_42 : decode cX5_about 42 = .ok (.iload_n 2, 1) := by decide +kernel
theorem dX5_about_43 : decode cX5_about 43 = .ok (.tableswitch 73 0 3 #[29, 41, 49, 64], 29) := by decide +kernel
theorem dX5_about_72 : decode cX5_about 72 = .ok (.aload_n 0, 1) := by decide +kernel
theorem dX5_about_73 : decode cX5_about 73 = .ok (.getfield 12, 3) := by decide +kernel
theorem dX5_about_76 : decode cX5_about 76 = .ok (.aload_n 3, 1) := by decide +kernel
theorem dX5_about_77 : decode cX5_about 77 = .ok (.getfield 144, 3) := by decide +kernel
theorem dX5_about_80 : decode cX5_about 80 = .ok (.invokevirtual 158, 3) := by decide +kernel
theorem dX5_about_83 : decode cX5_about 83 = .ok (.ireturn, 1) := by decide +kernel
theorem dX5_about_84 : decode cX5_about 84 = .ok (.aload_n 3, 1) := by decide +kernel
theorem dX5_about_85 : decode cX5_about 85 = .ok (.getfield 144, 3) := by decide +kernel
theorem dX5_about_88 : decode cX5_about 88 = .ok (.invokestatic 153, 3) := by decide +kernel
theorem dX5_about_91 : decode cX5_about 91 = .ok (.ireturn, 1) := by decide +kernel
theorem dX5_about_92 : decode cX5_about 92 = .ok (.aload_n 0, 1) := by decide +kernel
theorem dX5_about_93 : decode cX5_about 93 = .ok (.getfield 12, 3) := by decide +kernel
theorem dX5_about_96 : decode cX5_about 96 = .ok (.aload_n 3, 1) := by decide +kernel
theorem dX5_about_97 : decode cX5_about 97 = .ok (.getfield 144, 3) := by decide +kernel
theorem dX5_about_100 : decode cX5_about 100 = .ok (.invokevirtual 161, 3) := by decide +kernel
theorem dX5_about_103 : decode cX5_about 103 = .ok (.invokestatic 153, 3) := by decide +kernel
theorem dX5_about_106 : decode cX5_about 106 = .ok (.ireturn, 1) := by decide +kernel
theorem dX5_about_107 : decode cX5_about 107 = .ok (.aload_n 3, 1) := by decide +kernel
theorem dX5_about_108 : decode cX5_about 108 = .ok (.aload_n 0, 1) := by decide +kernel
theorem dX5_about_109 : decode cX5_about 109 = .ok (.getfield 12, 3) := by decide +kernel
theorem dX5_about_112 : decode cX5_about 112 = .ok (.invokevirtual 164, 3) := by decide +kernel
theorem dX5_about_115 : decode cX5_about 115 = .ok (.ireturn, 1) := by decide +kernel
theorem dX5_about_116 : decode cX5_about 116 = .ok (.aload_n 3, 1) := by decide +kernel
theorem dX5_about_117 : decode cX5_about 117 = .ok (.getfield 147, 3) := by decide +kernel
theorem dX5_about_120 : decode cX5_about 120 = .ok (.ifCond .eq 7, 3) := by decide +kernel
theorem dX5_about_123 : decode cX5_about 123 = .ok (.iconst 1, 1) := by decide +kernel
theorem dX5_about_124 : decode cX5_about 124 = .ok (.goto 4, 3) := by decide +kernel
theorem dX5_about_127 : decode cX5_about 127 = .ok (.iconst 0, 1) := by decide +kernel
theorem dX5_about_128 : decode cX5_about 128 = .ok (.ireturn, 1) := by decide +kernel
theorem dX5_open_0 : decode cX5_open 0 = .ok (.aload_n 0, 1) := by decide +kernel
theorem dX5_open_1 : decode cX5_open 1 = .ok (.getfield 85, 3) := by decide +kernel
theorem dX5_open_4 : decode cX5_open 4 = .ok (.ifCond .eq 23, 3) := by decide +kernel
theorem dX5_open_7 : decode cX5_open 7 = .ok (.aload_n 0, 1) := by decide +kernel
theorem dX5_open_8 : decode cX5_open 8 = .ok (.getfield 12, 3) := by decide +kernel
theorem dX5_open_11 : decode cX5_open 11 = .ok (.invokevirtual 116, 3) := by decide +kernel
theorem dX5_open_14 : decode cX5_open 14 = .ok (.aload_n 0, 1) := by decide +kernel
theorem dX5_open_15 : decode cX5_open 15 = .ok (.getfield 26, 3) := by decide +kernel
theorem dX5_open_18 : decode cX5_open 18 = .ok (.invokevirtual 168, 3) := by decide +kernel
theorem dX5_open_21 : decode cX5_open 21 = .ok (.iconst (-1), 1) := by decide +kernel
theorem dX5_open_22 : decode cX5_open 22 = .ok (.ixor, 1) := by decide +kernel
theorem dX5_open_23 : decode cX5_open 23 = .ok (.iand, 1) := by decide +kernel
theorem dX5_open_24 : decode cX5_open 24 = .ok (.goto 5, 3) := by decide +kernel
theorem dX5_open_27 : decode cX5_open 27 = .ok (.bipush (-3), 2) := by decide +kernel
theorem dX5_open_29 : decode cX5_open 29 = .ok (.ireturn, 1) := by decide +kernel
theorem dX5_denied_0 : decode cX5_denied 0 = .ok (.aload_n 0, 1) := by decide +kernel
theorem dX5_denied_1 : decode cX5_denied 1 = .ok (.getfield 26, 3) := by decide +kernel
theorem dX5_denied_4 : decode cX5_denied 4 = .ok (.iload_n 1, 1) := by decide +kernel
theorem dX5_denied_5 : decode cX5_denied 5 = .ok (.invokevirtual 72, 3) := by decide +kernel
theorem dX5_denied_8 : decode cX5_denied 8 = .ok (.ifCond .eq 19, 3) := by decide +kernel
theorem dX5_denied_11 : decode cX5_denied 11 = .ok (.aload_n 0, 1) := by decide +kernel
