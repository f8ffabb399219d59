theorem dX0_init_0 : decode cX0_init 0 = .ok (.aload_n 0, 1) := by decide +kernel
theorem dX0_init_1 : decode cX0_init 1 = .ok (.invokespecial 3, 3) := by decide +kernel
theorem dX0_init_4 : decode cX0_init 4 = .ok (.aload_n 0, 1) := by decide +kernel
theorem dX0_init_5 : decode cX0_init 5 = .ok (.sipush 512, 3) := by decide +kernel
theorem dX0_init_8 : decode cX0_init 8 = .ok (.newarray .int, 2) := by decide +kernel
theorem dX0_init_10 : decode cX0_init 10 = .ok (.putfield 9, 3) := by decide +kernel
theorem dX0_init_13 : decode cX0_init 13 = .ok (.aload_n 0, 1) := by decide +kernel
theorem dX0_init_14 : decode cX0_init 14 = .ok (.sipush 8192, 3) := by decide +kernel
theorem dX0_init_17 : decode cX0_init 17 = .ok (.newarray .int, 2) := by decide +kernel
theorem dX0_init_19 : decode cX0_init 19 = .ok (.putfield 15, 3) := by decide +kernel
theorem dX0_init_22 : decode cX0_init 22 = .ok (.aload_n 0, 1) := by decide +kernel
theorem dX0_init_23 : decode cX0_init 23 = .ok (.iconst 1, 1) := by decide +kernel
theorem dX0_init_24 : decode cX0_init 24 = .ok (.putfield 18, 3) := by decide +kernel
theorem dX0_init_27 : decode cX0_init 27 = .ok (.aload_n 0, 1) := by decide +kernel
theorem dX0_init_28 : decode cX0_init 28 = .ok (.aload_n 1, 1) := by decide +kernel
theorem dX0_init_29 : decode cX0_init 29 = .ok (.putfield 22, 3) := by decide +kernel
theorem dX0_init_32 : decode cX0_init 32 = .ok (.aload_n 0, 1) := by decide +kernel
theorem dX0_init_33 : decode cX0_init 33 = .ok (.aload_n 2, 1) := by decide +kernel
theorem dX0_init_34 : decode cX0_init 34 = .ok (.putfield 26, 3) := by decide +kernel
theorem dX0_init_37 : decode cX0_init 37 = .ok (.aload_n 0, 1) := by decide +kernel
theorem dX0_init_38 : decode cX0_init 38 = .ok (.aload_n 3, 1) := by decide +kernel
theorem dX0_init_39 : decode cX0_init 39 = .ok (.putfield 30, 3) := by decide +kernel
theorem dX0_init_42 : decode cX0_init 42 = .ok (.return_, 1) := by decide +kernel
theorem dX0_forget_0 : decode cX0_forget 0 = .ok (.aload_n 0, 1) := by decide +kernel
theorem dX0_forget_1 : decode cX0_forget 1 = .ok (.iconst 1, 1) := by decide +kernel
theorem dX0_forget_2 : decode cX0_forget 2 = .ok (.putfield 18, 3) := by decide +kernel
theorem dX0_forget_5 : decode cX0_forget 5 = .ok (.return_, 1) := by decide +kernel
theorem dX0_refresh_0 : decode cX0_refresh 0 = .ok (.aload_n 0, 1) := by decide +kernel
theorem dX0_refresh_1 : decode cX0_refresh 1 = .ok (.getfield 18, 3) := by decide +kernel
theorem dX0_refresh_4 : decode cX0_refresh 4 = .ok (.ifCond .eq 17, 3) := by decide +kernel
theorem dX0_refresh_7 : decode cX0_refresh 7 = .ok (.aload_n 0, 1) := by decide +kernel
theorem dX0_refresh_8 : decode cX0_refresh 8 = .ok (.invokevirtual 34, 3) := by decide +kernel
theorem dX0_refresh_11 : decode cX0_refresh 11 = .ok (.aload_n 0, 1) := by decide +kernel
theorem dX0_refresh_12 : decode cX0_refresh 12 = .ok (.iconst 1, 1) := by decide +kernel
theorem dX0_refresh_13 : decode cX0_refresh 13 = .ok (.putfield 37, 3) := by decide +kernel
theorem dX0_refresh_16 : decode cX0_refresh 16 = .ok (.aload_n 0, 1) := by decide +kernel
theorem dX0_refresh_17 : decode cX0_refresh 17 = .ok (.iconst 0, 1) := by decide +kernel
theorem dX0_refresh_18 : decode cX0_refresh 18 = .ok (.putfield 18, 3) := by decide +kernel
theorem dX0_refresh_21 : decode cX0_refresh 21 = .ok (.return_, 1) := by decide +kernel
theorem dX0_isLegal_0 : decode cX0_isLegal 0 = .ok (.aload_n 0, 1) := by decide +kernel
theorem dX0_isLegal_1 : decode cX0_isLegal 1 = .ok (.getfield 9, 3) := by decide +kernel
theorem dX0_isLegal_4 : decode cX0_isLegal 4 = .ok (.iload_n 2, 1) := by decide +kernel
theorem dX0_isLegal_5 : decode cX0_isLegal 5 = .ok (.iaload, 1) := by decide +kernel
theorem dX0_isLegal_6 : decode cX0_isLegal 6 = .ok (.iload_n 1, 1) := by decide +kernel
theorem dX0_isLegal_7 : decode cX0_isLegal 7 = .ok (.ishr, 1) := by decide +kernel
theorem dX0_isLegal_8 : decode cX0_isLegal 8 = .ok (.iconst 1, 1) := by decide +kernel
theorem dX0_isLegal_9 : decode cX0_isLegal 9 = .ok (.iand, 1) := by decide +kernel
theorem dX0_isLegal_10 : decode cX0_isLegal 10 = .ok (.iconst 1, 1) := by decide +kernel
theorem dX0_isLegal_11 : decode cX0_isLegal 11 = .ok (.if_icmp .ne 7, 3) := by decide +kernel
theorem dX0_isLegal_14 : decode cX0_isLegal 14 = .ok (.iconst 1, 1) := by decide +kernel
theorem dX0_isLegal_15 : decode cX0_isLegal 15 = .ok (.goto 4, 3) := by decide +kernel
theorem dX0_isLegal_18 : decode cX0_isLegal 18 = .ok (.iconst 0, 1) := by decide +kernel
theorem dX0_isLegal_19 : decode cX0_isLegal 19 = .ok (.ireturn, 1) := by decide +kernel
theorem dX0_coverBy_0 : decode cX0_coverBy 0 = .ok (.iload_n 1, 1) := by decide +kernel
theorem dX0_coverBy_1 : decode cX0_coverBy 1 = .ok (.aload_n 0, 1) := by decide +kernel
theorem dX0_coverBy_2 : decode cX0_coverBy 2 = .ok (.getfield 37, 3) := by decide +kernel
theorem dX0_coverBy_5 : decode cX0_coverBy 5 = .ok (.invokestatic 41, 3) := by decide +kernel
theorem dX0_coverBy_8 : decode cX0_coverBy 8 = .ok (.ifCond .ne 8, 3) := by decide +kernel
theorem dX0_coverBy_11 : decode cX0_coverBy 11 = .ok (.aload_n 0, 1) := by decide +kernel
theorem dX0_coverBy_12 : decode cX0_coverBy 12 = .ok (.iload_n 1, 1) := by decide +kernel
theorem dX0_coverBy_13 : decode cX0_coverBy 13 = .ok (.invokevirtual 45, 3) := by decide +kernel
theorem dX0_coverBy_16 : decode cX0_coverBy 16 = .ok (.aload_n 0, 1) := by decide +kernel
theorem dX0_coverBy_17 : decode cX0_coverBy 17 = .ok (.getfield 15, 3) := by decide +kernel
theorem dX0_coverBy_20 : decode cX0_coverBy 20 = .ok (.iload_n 1, 1) := by decide +kernel
theorem dX0_coverBy_21 : decode cX0_coverBy 21 = .ok (.sipush 512, 3) := by decide +kernel
theorem dX0_coverBy_24 : decode cX0_coverBy 24 = .ok (.imul, 1) := by decide +kernel
theorem dX0_coverBy_25 : decode cX0_coverBy 25 = .ok (.iload_n 2, 1) := by decide +kernel
theorem dX0_coverBy_26 : decode cX0_coverBy 26 = .ok (.iadd, 1) := by decide +kernel
theorem dX0_coverBy_27 : decode cX0_coverBy 27 = .ok (.iaload, 1) := by decide +kernel
theorem dX0_coverBy_28 : decode cX0_coverBy 28 = .ok (.ireturn, 1) := by decide +kernel
theorem dX0_findLegal_0 : decode cX0_findLegal 0 = .ok (.aload_n 0, 1) := by decide +kernel
theorem dX0_findLegal_1 : decode cX0_findLegal 1 = .ok (.getfield 9, 3) := by decide +kernel
theorem dX0_findLegal_4 : decode cX0_findLegal 4 = .ok (.iconst 0, 1) := by decide +kernel
theorem dX0_findLegal_5 : decode cX0_findLegal 5 = .ok (.aload_n 0, 1) := by decide +kernel
theorem dX0_findLegal_6 : decode cX0_findLegal 6 = .ok (.getfield 30, 3) := by decide +kernel
theorem dX0_findLegal_9 : decode cX0_findLegal 9 = .ok (.iconst 0, 1) := by decide +kernel
theorem dX0_findLegal_10 : decode cX0_findLegal 10 = .ok (.invokevirtual 49, 3) := by decide +kernel
theorem dX0_findLegal_13 : decode cX0_findLegal 13 = .ok (.iastore, 1) := by decide +kernel
theorem dX0_findLegal_14 : decode cX0_findLegal 14 = .ok (.iconst 1, 1) := by decide +kernel
theorem dX0_findLegal_15 : decode cX0_findLegal 15 = .ok (.istore_n 1, 1) := by decide +kernel
theorem dX0_findLegal_16 : decode cX0_findLegal 16 = .ok (.iload_n 1, 1) := by decide +kernel
theorem dX0_findLegal_17 : decode cX0_findLegal 17 = .ok (.aload_n 0, 1) := by decide +kernel
theorem dX0_findLegal_18 : decode cX0_findLegal 18 = .ok (.getfield 22, 3) := by decide +kernel
theorem dX0_findLegal_21 : decode cX0_findLegal 21 = .ok (.invokevirtual 55, 3) := by decide +kernel
theorem dX0_findLegal_24 : decode cX0_findLegal 24 = .ok (.if_icmp .gt 65, 3) := by decide +kernel
theorem dX0_findLegal_27 : decode cX0_findLegal 27 = .ok (.aload_n 0, 1) := by decide +kernel
theorem dX0_findLegal_28 : decode cX0_findLegal 28 = .ok (.getfield 9, 3) := by decide +kernel
theorem dX0_findLegal_31 : decode cX0_findLegal 31 = .ok (.iload_n 1, 1) := by decide +kernel
theorem dX0_findLegal_32 : decode cX0_findLegal 32 = .ok (.iload_n 1, 1) := by decide +kernel
theorem dX0_findLegal_33 : decode cX0_findLegal 33 = .ok (.iconst 1, 1) := by decide +kernel
theorem dX0_findLegal_34 : decode cX0_findLegal 34 = .ok (.isub, 1) := by decide +kernel
theorem dX0_findLegal_35 : decode cX0_findLegal 35 = .ok (.iand, 1) := by decide +kernel
theorem dX0_findLegal_36 : decode cX0_findLegal 36 = .ok (.iaload, 1) := by decide +kernel
theorem dX0_findLegal_37 : decode cX0_findLegal 37 = .ok (.istore_n 2, 1) := by decide +kernel
theorem dX0_findLegal_38 : decode cX0_findLegal 38 = .ok (.iload_n 2, 1) := by decide +kernel
theorem dX0_findLegal_39 : decode cX0_findLegal 39 = .ok (.ifCond .eq 18, 3) := by decide +kernel
theorem dX0_findLegal_42 : decode cX0_findLegal 42 = .ok (.aload_n 0, 1) := by decide +kernel
theorem dX0_findLegal_43 : decode cX0_findLegal 43 = .ok (.getfield 26, 3) := by decide +kernel
theorem dX0_findLegal_46 : decode cX0_findLegal 46 = .ok (.aload_n 0, 1) := by decide +kernel
theorem dX0_findLegal_47 : decode cX0_findLegal 47 = .ok (.getfield 22, 3) := by decide +kernel
theorem dX0_findLegal_50 : decode cX0_findLegal 50 = .ok (.iload_n 1, 1) := by decide +kernel
theorem dX0_findLegal_51 : decode cX0_findLegal 51 = .ok (.invokevirtual 61, 3) := by decide +kernel
theorem dX0_findLegal_54 : decode cX0_findLegal 54 = .ok (.ifCond .eq 7, 3) := by decide +kernel
theorem dX0_findLegal_57 : decode cX0_findLegal 57 = .ok (.iconst 1, 1) := by decide +kernel
theorem dX0_findLegal_58 : decode cX0_findLegal 58 = .ok (.goto 4, 3) := by decide +kernel
theorem dX0_findLegal_61 : decode cX0_findLegal 61 = .ok (.iconst 0, 1) := by decide +kernel
theorem dX0_findLegal_62 : decode cX0_findLegal 62 = .ok (.istore_n 3, 1) := by decide +kernel
theorem dX0_findLegal_63 : decode cX0_findLegal 63 = .ok (.aload_n 0, 1) := by decide +kernel
theorem dX0_findLegal_64 : decode cX0_findLegal 64 = .ok (.getfield 9, 3) := by decide +kernel
theorem dX0_findLegal_67 : decode cX0_findLegal 67 = .ok (.iload_n 1, 1) := by decide +kernel
theorem dX0_findLegal_68 : decode cX0_findLegal 68 = .ok (.iload_n 3, 1) := by decide +kernel
theorem dX0_findLegal_69 : decode cX0_findLegal 69 = .ok (.ifCond .eq 7, 3) := by decide +kernel
theorem dX0_findLegal_72 : decode cX0_findLegal 72 = .ok (.iconst 0, 1) := by decide +kernel
theorem dX0_findLegal_73 : decode cX0_findLegal 73 = .ok (.goto 9, 3) := by decide +kernel
theorem dX0_findLegal_76 : decode cX0_findLegal 76 = .ok (.aload_n 0, 1) := by decide +kernel
theorem dX0_findLegal_77 : decode cX0_findLegal 77 = .ok (.iload_n 2, 1) := by decide +kernel
theorem dX0_findLegal_78 : decode cX0_findLegal 78 = .ok (.iload_n 1, 1) := by decide +kernel
theorem dX0_findLegal_79 : decode cX0_findLegal 79 = .ok (.invokevirtual 67, 3) := by decide +kernel
theorem dX0_findLegal_82 : decode cX0_findLegal 82 = .ok (.iastore, 1) := by decide +kernel
theorem dX0_findLegal_83 : decode cX0_findLegal 83 = .ok (.iinc 1 1, 3) := by decide +kernel
theorem dX0_findLegal_86 : decode cX0_findLegal 86 = .ok (.goto (-70), 3) := by decide +kernel
theorem dX0_findLegal_89 : decode cX0_findLegal 89 = .ok (.return_, 1) := by decide +kernel
theorem dX0_able_0 : decode cX0_able 0 = .ok (.iconst 0, 1) := by decide +kernel
theorem dX0_able_1 : decode cX0_able 1 = .ok (.istore_n 3, 1) := by decide +kernel
theorem dX0_able_2 : decode cX0_able 2 = .ok (.iconst 0, 1) := by decide +kernel
theorem dX0_able_3 : decode cX0_able 3 = .ok (.istore 4, 2) := by decide +kernel
theorem dX0_able_5 : decode cX0_able 5 = .ok (.iload 4, 2) := by decide +kernel
theorem dX0_able_7 : decode cX0_able 7 = .ok (.aload_n 0, 1) := by decide +kernel
theorem dX0_able_8 : decode cX0_able 8 = .ok (.getfield 30, 3) := by decide +kernel
theorem dX0_able_11 : decode cX0_able 11 = .ok (.getfield 71, 3) := by decide +kernel
theorem dX0_able_14 : decode cX0_able 14 = .ok (.if_icmp .ge 63, 3) := by decide +kernel
theorem dX0_able_17 : decode cX0_able 17 = .ok (.aload_n 0, 1) := by decide +kernel
theorem dX0_able_18 : decode cX0_able 18 = .ok (.getfield 30, 3) := by decide +kernel
theorem dX0_able_21 : decode cX0_able 21 = .ok (.getfield 74, 3) := by decide +kernel
theorem dX0_able_24 : decode cX0_able 24 = .ok (.iload 4, 2) := by decide +kernel
theorem dX0_able_26 : decode cX0_able 26 = .ok (.aaload, 1) := by decide +kernel
theorem dX0_able_27 : decode cX0_able 27 = .ok (.astore 5, 2) := by decide +kernel
theorem dX0_able_29 : decode cX0_able 29 = .ok (.iload 4, 2) := by decide +kernel
theorem dX0_able_31 : decode cX0_able 31 = .ok (.iload_n 1, 1) := by decide +kernel
theorem dX0_able_32 : decode cX0_able 32 = .ok (.invokestatic 41, 3) := by decide +kernel
theorem dX0_able_35 : decode cX0_able 35 = .ok (.ifCond .eq 36, 3) := by decide +kernel
theorem dX0_able_38 : decode cX0_able 38 = .ok (.aload 5, 2) := by decide +kernel
theorem dX0_able_40 : decode cX0_able 40 = .ok (.aload_n 0, 1) := by decide +kernel
theorem dX0_able_41 : decode cX0_able 41 = .ok (.getfield 22, 3) := by decide +kernel
theorem dX0_able_44 : decode cX0_able 44 = .ok (.iload_n 2, 1) := by decide +kernel
theorem dX0_able_45 : decode cX0_able 45 = .ok (.invokevirtual 78, 3) := by decide +kernel
theorem dX0_able_48 : decode cX0_able 48 = .ok (.ifCond .eq 23, 3) := by decide +kernel
theorem dX0_able_51 : decode cX0_able 51 = .ok (.aload 5, 2) := by decide +kernel
theorem dX0_able_53 : decode cX0_able 53 = .ok (.aload_n 0, 1) := by decide +kernel
theorem dX0_able_54 : decode cX0_able 54 = .ok (.getfield 22, 3) := by decide +kernel
theorem dX0_able_57 : decode cX0_able 57 = .ok (.iload_n 2, 1) := by decide +kernel
theorem dX0_able_58 : decode cX0_able 58 = .ok (.invokevirtual 84, 3) := by decide +kernel
theorem dX0_able_61 : decode cX0_able 61 = .ok (.ifCond .eq 10, 3) := by decide +kernel
theorem dX0_able_64 : decode cX0_able 64 = .ok (.iload_n 3, 1) := by decide +kernel
theorem dX0_able_65 : decode cX0_able 65 = .ok (.iconst 1, 1) := by decide +kernel
theorem dX0_able_66 : decode cX0_able 66 = .ok (.iload 4, 2) := by decide +kernel
theorem dX0_able_68 : decode cX0_able 68 = .ok (.ishl, 1) := by decide +kernel
theorem dX0_able_69 : decode cX0_able 69 = .ok (.ior, 1) := by decide +kernel
theorem dX0_able_70 : decode cX0_able 70 = .ok (.istore_n 3, 1) := by decide +kernel
theorem dX0_able_71 : decode cX0_able 71 = .ok (.iinc 4 1, 3) := by decide +kernel
theorem dX0_able_74 : decode cX0_able 74 = .ok (.goto (-69), 3) := by decide +kernel
theorem dX0_able_77 : decode cX0_able 77 = .ok (.iload_n 3, 1) := by decide +kernel
theorem dX0_able_78 : decode cX0_able 78 = .ok (.ireturn, 1) := by decide +kernel
theorem dX0_findCovers_0 : decode cX0_findCovers 0 = .ok (.aload_n 0, 1) := by decide +kernel
theorem dX0_findCovers_1 : decode cX0_findCovers 1 = .ok (.getfield 30, 3) := by decide +kernel
theorem dX0_findCovers_4 : decode cX0_findCovers 4 = .ok (.getfield 71, 3) := by decide +kernel
theorem dX0_findCovers_7 : decode cX0_findCovers 7 = .ok (.iconst 1, 1) := by decide +kernel
theorem dX0_findCovers_8 : decode cX0_findCovers 8 = .ok (.isub, 1) := by decide +kernel
theorem dX0_findCovers_9 : decode cX0_findCovers 9 = .ok (.istore_n 2, 1) := by decide +kernel
theorem dX0_findCovers_10 : decode cX0_findCovers 10 = .ok (.iload_n 2, 1) := by decide +kernel
theorem dX0_findCovers_11 : decode cX0_findCovers 11 = .ok (.ifCond .lt 49, 3) := by decide +kernel
theorem dX0_findCovers_14 : decode cX0_findCovers 14 = .ok (.iload_n 1, 1) := by decide +kernel
theorem dX0_findCovers_15 : decode cX0_findCovers 15 = .ok (.aload_n 0, 1) := by decide +kernel
theorem dX0_findCovers_16 : decode cX0_findCovers 16 = .ok (.getfield 30, 3) := by decide +kernel
theorem dX0_findCovers_19 : decode cX0_findCovers 19 = .ok (.iload_n 2, 1) := by decide +kernel
theorem dX0_findCovers_20 : decode cX0_findCovers 20 = .ok (.invokevirtual 49, 3) := by decide +kernel
theorem dX0_findCovers_23 : decode cX0_findCovers 23 = .ok (.iand, 1) := by decide +kernel
theorem dX0_findCovers_24 : decode cX0_findCovers 24 = .ok (.istore_n 3, 1) := by decide +kernel
theorem dX0_findCovers_25 : decode cX0_findCovers 25 = .ok (.iload_n 3, 1) := by decide +kernel
theorem dX0_findCovers_26 : decode cX0_findCovers 26 = .ok (.aload_n 0, 1) := by decide +kernel
theorem dX0_findCovers_27 : decode cX0_findCovers 27 = .ok (.getfield 37, 3) := by decide +kernel
theorem dX0_findCovers_30 : decode cX0_findCovers 30 = .ok (.invokestatic 41, 3) := by decide +kernel
theorem dX0_findCovers_33 : decode cX0_findCovers 33 = .ok (.ifCond .ne 21, 3) := by decide +kernel
theorem dX0_findCovers_36 : decode cX0_findCovers 36 = .ok (.aload_n 0, 1) := by decide +kernel
theorem dX0_findCovers_37 : decode cX0_findCovers 37 = .ok (.iload_n 3, 1) := by decide +kernel
theorem dX0_findCovers_38 : decode cX0_findCovers 38 = .ok (.iload_n 2, 1) := by decide +kernel
theorem dX0_findCovers_39 : decode cX0_findCovers 39 = .ok (.invokevirtual 87, 3) := by decide +kernel
theorem dX0_findCovers_42 : decode cX0_findCovers 42 = .ok (.aload_n 0, 1) := by decide +kernel
theorem dX0_findCovers_43 : decode cX0_findCovers 43 = .ok (.dup, 1) := by decide +kernel
theorem dX0_findCovers_44 : decode cX0_findCovers 44 = .ok (.getfield 37, 3) := by decide +kernel
theorem dX0_findCovers_47 : decode cX0_findCovers 47 = .ok (.iconst 1, 1) := by decide +kernel
theorem dX0_findCovers_48 : decode cX0_findCovers 48 = .ok (.iload_n 3, 1) := by decide +kernel
theorem dX0_findCovers_49 : decode cX0_findCovers 49 = .ok (.ishl, 1) := by decide +kernel
theorem dX0_findCovers_50 : decode cX0_findCovers 50 = .ok (.ior, 1) := by decide +kernel
theorem dX0_findCovers_51 : decode cX0_findCovers 51 = .ok (.putfield 37, 3) := by decide +kernel
theorem dX0_findCovers_54 : decode cX0_findCovers 54 = .ok (.iinc 2 (-1), 3) := by decide +kernel
theorem dX0_findCovers_57 : decode cX0_findCovers 57 = .ok (.goto (-47), 3) := by decide +kernel
theorem dX0_findCovers_60 : decode cX0_findCovers 60 = .ok (.return_, 1) := by decide +kernel
theorem dX0_fillCovers_0 : decode cX0_fillCovers 0 = .ok (.iload_n 1, 1) := by decide +kernel
theorem dX0_fillCovers_1 : decode cX0_fillCovers 1 = .ok (.sipush 512, 3) := by decide +kernel
theorem dX0_fillCovers_4 : decode cX0_fillCovers 4 = .ok (.imul, 1) := by decide +kernel
theorem dX0_fillCovers_5 : decode cX0_fillCovers 5 = .ok (.istore_n 3, 1) := by decide +kernel
theorem dX0_fillCovers_6 : decode cX0_fillCovers 6 = .ok (.iconst 1, 1) := by decide +kernel
theorem dX0_fillCovers_7 : decode cX0_fillCovers 7 = .ok (.istore 4, 2) := by decide +kernel
theorem dX0_fillCovers_9 : decode cX0_fillCovers 9 = .ok (.iload 4, 2) := by decide +kernel
theorem dX0_fillCovers_11 : decode cX0_fillCovers 11 = .ok (.aload_n 0, 1) := by decide +kernel
theorem dX0_fillCovers_12 : decode cX0_fillCovers 12 = .ok (.getfield 22, 3) := by decide +kernel
theorem dX0_fillCovers_15 : decode cX0_fillCovers 15 = .ok (.invokevirtual 55, 3) := by decide +kernel
theorem dX0_fillCovers_18 : decode cX0_fillCovers 18 = .ok (.if_icmp .gt 73, 3) := by decide +kernel
theorem dX0_fillCovers_21 : decode cX0_fillCovers 21 = .ok (.iload 4, 2) := by decide +kernel
theorem dX0_fillCovers_23 : decode cX0_fillCovers 23 = .ok (.invokestatic 91, 3) := by decide +kernel
theorem dX0_fillCovers_26 : decode cX0_fillCovers 26 = .ok (.istore 5, 2) := by decide +kernel
theorem dX0_fillCovers_28 : decode cX0_fillCovers 28 = .ok (.aload_n 0, 1) := by decide +kernel
theorem dX0_fillCovers_29 : decode cX0_fillCovers 29 = .ok (.iload_n 3, 1) := by decide +kernel
theorem dX0_fillCovers_30 : decode cX0_fillCovers 30 = .ok (.iload 4, 2) := by decide +kernel
theorem dX0_fillCovers_32 : decode cX0_fillCovers 32 = .ok (.invokevirtual 96, 3) := by decide +kernel
theorem dX0_fillCovers_35 : decode cX0_fillCovers 35 = .ok (.istore 6, 2) := by decide +kernel
theorem dX0_fillCovers_37 : decode cX0_fillCovers 37 = .ok (.iload 6, 2) := by decide +kernel
theorem dX0_fillCovers_39 : decode cX0_fillCovers 39 = .ok (.iload 5, 2) := by decide +kernel
theorem dX0_fillCovers_41 : decode cX0_fillCovers 41 = .ok (.iconst 1, 1) := by decide +kernel
theorem dX0_fillCovers_42 : decode cX0_fillCovers 42 = .ok (.isub, 1) := by decide +kernel
theorem dX0_fillCovers_43 : decode cX0_fillCovers 43 = .ok (.if_icmp .ne 18, 3) := by decide +kernel
theorem dX0_fillCovers_46 : decode cX0_fillCovers 46 = .ok (.aload_n 0, 1) := by decide +kernel
theorem dX0_fillCovers_47 : decode cX0_fillCovers 47 = .ok (.iload_n 1, 1) := by decide +kernel
theorem dX0_fillCovers_48 : decode cX0_fillCovers 48 = .ok (.iload_n 2, 1) := by decide +kernel
theorem dX0_fillCovers_49 : decode cX0_fillCovers 49 = .ok (.iload 4, 2) := by decide +kernel
theorem dX0_fillCovers_51 : decode cX0_fillCovers 51 = .ok (.invokevirtual 99, 3) := by decide +kernel
theorem dX0_fillCovers_54 : decode cX0_fillCovers 54 = .ok (.ifCond .eq 7, 3) := by decide +kernel
theorem dX0_fillCovers_57 : decode cX0_fillCovers 57 = .ok (.iconst 1, 1) := by decide +kernel
theorem dX0_fillCovers_58 : decode cX0_fillCovers 58 = .ok (.goto 4, 3) := by decide +kernel
theorem dX0_fillCovers_61 : decode cX0_fillCovers 61 = .ok (.iconst 0, 1) := by decide +kernel
theorem dX0_fillCovers_62 : decode cX0_fillCovers 62 = .ok (.istore 7, 2) := by decide +kernel
theorem dX0_fillCovers_64 : decode cX0_fillCovers 64 = .ok (.aload_n 0, 1) := by decide +kernel
theorem dX0_fillCovers_65 : decode cX0_fillCovers 65 = .ok (.getfield 15, 3) := by decide +kernel
theorem dX0_fillCovers_68 : decode cX0_fillCovers 68 = .ok (.iload_n 3, 1) := by decide +kernel
theorem dX0_fillCovers_69 : decode cX0_fillCovers 69 = .ok (.iload 4, 2) := by decide +kernel
theorem dX0_fillCovers_71 : decode cX0_fillCovers 71 = .ok (.iadd, 1) := by decide +kernel
theorem dX0_fillCovers_72 : decode cX0_fillCovers 72 = .ok (.iload 7, 2) := by decide +kernel
theorem dX0_fillCovers_74 : decode cX0_fillCovers 74 = .ok (.ifCond .eq 8, 3) := by decide +kernel
theorem dX0_fillCovers_77 : decode cX0_fillCovers 77 = .ok (.iload 5, 2) := by decide +kernel
theorem dX0_fillCovers_79 : decode cX0_fillCovers 79 = .ok (.goto 5, 3) := by decide +kernel
theorem dX0_fillCovers_82 : decode cX0_fillCovers 82 = .ok (.iload 6, 2) := by decide +kernel
theorem dX0_fillCovers_84 : decode cX0_fillCovers 84 = .ok (.iastore, 1) := by decide +kernel
theorem dX0_fillCovers_85 : decode cX0_fillCovers 85 = .ok (.iinc 4 1, 3) := by decide +kernel
theorem dX0_fillCovers_88 : decode cX0_fillCovers 88 = .ok (.goto (-79), 3) := by decide +kernel
theorem dX0_fillCovers_91 : decode cX0_fillCovers 91 = .ok (.return_, 1) := by decide +kernel
theorem dX0_bestWithOneLess_0 : decode cX0_bestWithOneLess 0 = .ok (.iconst 0, 1) := by decide +kernel
theorem dX0_bestWithOneLess_1 : decode cX0_bestWithOneLess 1 = .ok (.istore_n 3, 1) := by decide +kernel
theorem dX0_bestWithOneLess_2 : decode cX0_bestWithOneLess 2 = .ok (.iconst 0, 1) := by decide +kernel
theorem dX0_bestWithOneLess_3 : decode cX0_bestWithOneLess 3 = .ok (.istore 4, 2) := by decide +kernel
theorem dX0_bestWithOneLess_5 : decode cX0_bestWithOneLess 5 = .ok (.iload 4, 2) := by decide +kernel
theorem dX0_bestWithOneLess_7 : decode cX0_bestWithOneLess 7 = .ok (.aload_n 0, 1) := by decide +kernel
theorem dX0_bestWithOneLess_8 : decode cX0_bestWithOneLess 8 = .ok (.getfield 22, 3) := by decide +kernel
theorem dX0_bestWithOneLess_11 : decode cX0_bestWithOneLess 11 = .ok (.getfield 103, 3) := by decide +kernel
theorem dX0_bestWithOneLess_14 : decode cX0_bestWithOneLess 14 = .ok (.if_icmp .ge 38, 3) := by decide +kernel
theorem dX0_bestWithOneLess_17 : decode cX0_bestWithOneLess 17 = .ok (.iload 4, 2) := by decide +kernel
theorem dX0_bestWithOneLess_19 : decode cX0_bestWithOneLess 19 = .ok (.iload_n 2, 1) := by decide +kernel
theorem dX0_bestWithOneLess_20 : decode cX0_bestWithOneLess 20 = .ok (.invokestatic 41, 3) := by decide +kernel
theorem dX0_bestWithOneLess_23 : decode cX0_bestWithOneLess 23 = .ok (.ifCond .eq 23, 3) := by decide +kernel
theorem dX0_bestWithOneLess_26 : decode cX0_bestWithOneLess 26 = .ok (.iload_n 3, 1) := by decide +kernel
theorem dX0_bestWithOneLess_27 : decode cX0_bestWithOneLess 27 = .ok (.aload_n 0, 1) := by decide +kernel
theorem dX0_bestWithOneLess_28 : decode cX0_bestWithOneLess 28 = .ok (.getfield 15, 3) := by decide +kernel
theorem dX0_bestWithOneLess_31 : decode cX0_bestWithOneLess 31 = .ok (.iload_n 1, 1) := by decide +kernel
theorem dX0_bestWithOneLess_32 : decode cX0_bestWithOneLess 32 = .ok (.iload_n 2, 1) := by decide +kernel
theorem dX0_bestWithOneLess_33 : decode cX0_bestWithOneLess 33 = .ok (.iconst 1, 1) := by decide +kernel
theorem dX0_bestWithOneLess_34 : decode cX0_bestWithOneLess 34 = .ok (.iload 4, 2) := by decide +kernel
theorem dX0_bestWithOneLess_36 : decode cX0_bestWithOneLess 36 = .ok (.ishl, 1) := by decide +kernel
theorem dX0_bestWithOneLess_37 : decode cX0_bestWithOneLess 37 = .ok (.iconst (-1), 1) := by decide +kernel
theorem dX0_bestWithOneLess_38 : decode cX0_bestWithOneLess 38 = .ok (.ixor, 1) := by decide +kernel
theorem dX0_bestWithOneLess_39 : decode cX0_bestWithOneLess 39 = .ok (.iand, 1) := by decide +kernel
theorem dX0_bestWithOneLess_40 : decode cX0_bestWithOneLess 40 = .ok (.iadd, 1) := by decide +kernel
theorem dX0_bestWithOneLess_41 : decode cX0_bestWithOneLess 41 = .ok (.iaload, 1) := by decide +kernel
theorem dX0_bestWithOneLess_42 : decode cX0_bestWithOneLess 42 = .ok (.invokestatic 104, 3) := by decide +kernel
theorem dX0_bestWithOneLess_45 : decode cX0_bestWithOneLess 45 = .ok (.istore_n 3, 1) := by decide +kernel
theorem dX0_bestWithOneLess_46 : decode cX0_bestWithOneLess 46 = .ok (.iinc 4 1, 3) := by decide +kernel
theorem dX0_bestWithOneLess_49 : decode cX0_bestWithOneLess 49 = .ok (.goto (-44), 3) := by decide +kernel
theorem dX0_bestWithOneLess_52 : decode cX0_bestWithOneLess 52 = .ok (.iload_n 3, 1) := by decide +kernel
theorem dX0_bestWithOneLess_53 : decode cX0_bestWithOneLess 53 = .ok (.ireturn, 1) := by decide +kernel
theorem dX0_isCoveredWhole_0 : decode cX0_isCoveredWhole 0 = .ok (.iload_n 1, 1) := by decide +kernel
theorem dX0_isCoveredWhole_1 : decode cX0_isCoveredWhole 1 = .ok (.iconst 1, 1) := by decide +kernel
theorem dX0_isCoveredWhole_2 : decode cX0_isCoveredWhole 2 = .ok (.iload_n 2, 1) := by decide +kernel
theorem dX0_isCoveredWhole_3 : decode cX0_isCoveredWhole 3 = .ok (.ishl, 1) := by decide +kernel
theorem dX0_isCoveredWhole_4 : decode cX0_isCoveredWhole 4 = .ok (.iconst (-1), 1) := by decide +kernel
theorem dX0_isCoveredWhole_5 : decode cX0_isCoveredWhole 5 = .ok (.ixor, 1) := by decide +kernel
theorem dX0_isCoveredWhole_6 : decode cX0_isCoveredWhole 6 = .ok (.iand, 1) := by decide +kernel
theorem dX0_isCoveredWhole_7 : decode cX0_isCoveredWhole 7 = .ok (.sipush 512, 3) := by decide +kernel
theorem dX0_isCoveredWhole_10 : decode cX0_isCoveredWhole 10 = .ok (.imul, 1) := by decide +kernel
theorem dX0_isCoveredWhole_11 : decode cX0_isCoveredWhole 11 = .ok (.istore 4, 2) := by decide +kernel
theorem dX0_isCoveredWhole_13 : decode cX0_isCoveredWhole 13 = .ok (.iload_n 3, 1) := by decide +kernel
theorem dX0_isCoveredWhole_14 : decode cX0_isCoveredWhole 14 = .ok (.istore 5, 2) := by decide +kernel
theorem dX0_isCoveredWhole_16 : decode cX0_isCoveredWhole 16 = .ok (.iload 5, 2) := by decide +kernel
theorem dX0_isCoveredWhole_18 : decode cX0_isCoveredWhole 18 = .ok (.ifCond .le 48, 3) := by decide +kernel
theorem dX0_isCoveredWhole_21 : decode cX0_isCoveredWhole 21 = .ok (.aload_n 0, 1) := by decide +kernel
theorem dX0_isCoveredWhole_22 : decode cX0_isCoveredWhole 22 = .ok (.iload_n 2, 1) := by decide +kernel
theorem dX0_isCoveredWhole_23 : decode cX0_isCoveredWhole 23 = .ok (.iload_n 3, 1) := by decide +kernel
theorem dX0_isCoveredWhole_24 : decode cX0_isCoveredWhole 24 = .ok (.iload 5, 2) := by decide +kernel
theorem dX0_isCoveredWhole_26 : decode cX0_isCoveredWhole 26 = .ok (.iconst (-1), 1) := by decide +kernel
theorem dX0_isCoveredWhole_27 : decode cX0_isCoveredWhole 27 = .ok (.ixor, 1) := by decide +kernel
theorem dX0_isCoveredWhole_28 : decode cX0_isCoveredWhole 28 = .ok (.iand, 1) := by decide +kernel
theorem dX0_isCoveredWhole_29 : decode cX0_isCoveredWhole 29 = .ok (.invokevirtual 109, 3) := by decide +kernel
theorem dX0_isCoveredWhole_32 : decode cX0_isCoveredWhole 32 = .ok (.ifCond .eq 23, 3) := by decide +kernel
theorem dX0_isCoveredWhole_35 : decode cX0_isCoveredWhole 35 = .ok (.aload_n 0, 1) := by decide +kernel
theorem dX0_isCoveredWhole_36 : decode cX0_isCoveredWhole 36 = .ok (.getfield 15, 3) := by decide +kernel
theorem dX0_isCoveredWhole_39 : decode cX0_isCoveredWhole 39 = .ok (.iload 4, 2) := by decide +kernel
theorem dX0_isCoveredWhole_41 : decode cX0_isCoveredWhole 41 = .ok (.iload 5, 2) := by decide +kernel
theorem dX0_isCoveredWhole_43 : decode cX0_isCoveredWhole 43 = .ok (.iadd, 1) := by decide +kernel
theorem dX0_isCoveredWhole_44 : decode cX0_isCoveredWhole 44 = .ok (.iaload, 1) := by decide +kernel
theorem dX0_isCoveredWhole_45 : decode cX0_isCoveredWhole 45 = .ok (.iload 5, 2) := by decide +kernel
theorem dX0_isCoveredWhole_47 : decode cX0_isCoveredWhole 47 = .ok (.invokestatic 91, 3) := by decide +kernel
theorem dX0_isCoveredWhole_50 : decode cX0_isCoveredWhole 50 = .ok (.if_icmp .ne 5, 3) := by decide +kernel
theorem dX0_isCoveredWhole_53 : decode cX0_isCoveredWhole 53 = .ok (.iconst 1, 1) := by decide +kernel
theorem dX0_isCoveredWhole_54 : decode cX0_isCoveredWhole 54 = .ok (.ireturn, 1) := by decide +kernel
theorem dX0_isCoveredWhole_55 : decode cX0_isCoveredWhole 55 = .ok (.iload 5, 2) := by decide +kernel
theorem dX0_isCoveredWhole_57 : decode cX0_isCoveredWhole 57 = .ok (.iconst 1, 1) := by decide +kernel
theorem dX0_isCoveredWhole_58 : decode cX0_isCoveredWhole 58 = .ok (.isub, 1) := by decide +kernel
theorem dX0_isCoveredWhole_59 : decode cX0_isCoveredWhole 59 = .ok (.iload_n 3, 1) := by decide +kernel
theorem dX0_isCoveredWhole_60 : decode cX0_isCoveredWhole 60 = .ok (.iand, 1) := by decide +kernel
theorem dX0_isCoveredWhole_61 : decode cX0_isCoveredWhole 61 = .ok (.istore 5, 2) := by decide +kernel
theorem dX0_isCoveredWhole_63 : decode cX0_isCoveredWhole 63 = .ok (.goto (-47), 3) := by decide +kernel
theorem dX0_isCoveredWhole_66 : decode cX0_isCoveredWhole 66 = .ok (.aload_n 0, 1) := by decide +kernel
theorem dX0_isCoveredWhole_67 : decode cX0_isCoveredWhole 67 = .ok (.iload_n 2, 1) := by decide +kernel
theorem dX0_isCoveredWhole_68 : decode cX0_isCoveredWhole 68 = .ok (.iload_n 3, 1) := by decide +kernel
theorem dX0_isCoveredWhole_69 : decode cX0_isCoveredWhole 69 = .ok (.invokevirtual 109, 3) := by decide +kernel
theorem dX0_isCoveredWhole_72 : decode cX0_isCoveredWhole 72 = .ok (.ireturn, 1) := by decide +kernel
theorem dX1_init_0 : decode cX1_init 0 = .ok (.aload_n 0, 1) := by decide +kernel
theorem dX1_init_1 : decode cX1_init 1 = .ok (.invokespecial 3, 3) := by decide +kernel
theorem dX1_init_4 : decode cX1_init 4 = .ok (.aload_n 0, 1) := by decide +kernel
theorem dX1_init_5 : decode cX1_init 5 = .ok (.bipush 9, 2) := by decide +kernel
theorem dX1_init_7 : decode cX1_init 7 = .ok (.newarray .int, 2) := by decide +kernel
theorem dX1_init_9 : decode cX1_init 9 = .ok (.putfield 9, 3) := by decide +kernel
theorem dX1_init_12 : decode cX1_init 12 = .ok (.aload_n 0, 1) := by decide +kernel
theorem dX1_init_13 : decode cX1_init 13 = .ok (.bipush 9, 2) := by decide +kernel
theorem dX1_init_15 : decode cX1_init 15 = .ok (.newarray .int, 2) := by decide +kernel
theorem dX1_init_17 : decode cX1_init 17 = .ok (.putfield 15, 3) := by decide +kernel
theorem dX1_init_20 : decode cX1_init 20 = .ok (.aload_n 0, 1) := by decide +kernel
theorem dX1_init_21 : decode cX1_init 21 = .ok (.bipush 9, 2) := by decide +kernel
theorem dX1_init_23 : decode cX1_init 23 = .ok (.newarray .int, 2) := by decide +kernel
theorem dX1_init_25 : decode cX1_init 25 = .ok (.putfield 18, 3) := by decide +kernel
theorem dX1_init_28 : decode cX1_init 28 = .ok (.aload_n 0, 1) := by decide +kernel
theorem dX1_init_29 : decode cX1_init 29 = .ok (.bipush 9, 2) := by decide +kernel
theorem dX1_init_31 : decode cX1_init 31 = .ok (.newarray .int, 2) := by decide +kernel
theorem dX1_init_33 : decode cX1_init 33 = .ok (.putfield 21, 3) := by decide +kernel
theorem dX1_init_36 : decode cX1_init 36 = .ok (.aload_n 0, 1) := by decide +kernel
theorem dX1_init_37 : decode cX1_init 37 = .ok (.bipush 9, 2) := by decide +kernel
theorem dX1_init_39 : decode cX1_init 39 = .ok (.newarray .int, 2) := by decide +kernel
theorem dX1_init_41 : decode cX1_init 41 = .ok (.putfield 24, 3) := by decide +kernel
theorem dX1_init_44 : decode cX1_init 44 = .ok (.return_, 1) := by decide +kernel
theorem dX1_enter_0 : decode cX1_enter 0 = .ok (.aload_n 0, 1) := by decide +kernel
theorem dX1_enter_1 : decode cX1_enter 1 = .ok (.getfield 27, 3) := by decide +kernel
theorem dX1_enter_4 : decode cX1_enter 4 = .ok (.istore 6, 2) := by decide +kernel
theorem dX1_enter_6 : decode cX1_enter 6 = .ok (.aload_n 0, 1) := by decide +kernel
theorem dX1_enter_7 : decode cX1_enter 7 = .ok (.getfield 9, 3) := by decide +kernel
theorem dX1_enter_10 : decode cX1_enter 10 = .ok (.iload 6, 2) := by decide +kernel
theorem dX1_enter_12 : decode cX1_enter 12 = .ok (.iload_n 1, 1) := by decide +kernel
theorem dX1_enter_13 : decode cX1_enter 13 = .ok (.iastore, 1) := by decide +kernel
theorem dX1_enter_14 : decode cX1_enter 14 = .ok (.aload_n 0, 1) := by decide +kernel
theorem dX1_enter_15 : decode cX1_enter 15 = .ok (.getfield 15, 3) := by decide +kernel
theorem dX1_enter_18 : decode cX1_enter 18 = .ok (.iload 6, 2) := by decide +kernel
theorem dX1_enter_20 : decode cX1_enter 20 = .ok (.iload_n 2, 1) := by decide +kernel
theorem dX1_enter_21 : decode cX1_enter 21 = .ok (.iastore, 1) := by decide +kernel
theorem dX1_enter_22 : decode cX1_enter 22 = .ok (.aload_n 0, 1) := by decide +kernel
theorem dX1_enter_23 : decode cX1_enter 23 = .ok (.getfield 18, 3) := by decide +kernel
theorem dX1_enter_26 : decode cX1_enter 26 = .ok (.iload 6, 2) := by decide +kernel
theorem dX1_enter_28 : decode cX1_enter 28 = .ok (.iconst 1, 1) := by decide +kernel
theorem dX1_enter_29 : decode cX1_enter 29 = .ok (.iload_n 2, 1) := by decide +kernel
theorem dX1_enter_30 : decode cX1_enter 30 = .ok (.ishl, 1) := by decide +kernel
theorem dX1_enter_31 : decode cX1_enter 31 = .ok (.iconst 1, 1) := by decide +kernel
theorem dX1_enter_32 : decode cX1_enter 32 = .ok (.isub, 1) := by decide +kernel
theorem dX1_enter_33 : decode cX1_enter 33 = .ok (.iload_n 1, 1) := by decide +kernel
theorem dX1_enter_34 : decode cX1_enter 34 = .ok (.ishl, 1) := by decide +kernel
theorem dX1_enter_35 : decode cX1_enter 35 = .ok (.iastore, 1) := by decide +kernel
theorem dX1_enter_36 : decode cX1_enter 36 = .ok (.aload_n 0, 1) := by decide +kernel
theorem dX1_enter_37 : decode cX1_enter 37 = .ok (.getfield 21, 3) := by decide +kernel
theorem dX1_enter_40 : decode cX1_enter 40 = .ok (.iload 6, 2) := by decide +kernel
theorem dX1_enter_42 : decode cX1_enter 42 = .ok (.iload_n 3, 1) := by decide +kernel
theorem dX1_enter_43 : decode cX1_enter 43 = .ok (.iastore, 1) := by decide +kernel
theorem dX1_enter_44 : decode cX1_enter 44 = .ok (.aload_n 0, 1) := by decide +kernel
theorem dX1_enter_45 : decode cX1_enter 45 = .ok (.getfield 24, 3) := by decide +kernel
theorem dX1_enter_48 : decode cX1_enter 48 = .ok (.iload 6, 2) := by decide +kernel
theorem dX1_enter_50 : decode cX1_enter 50 = .ok (.iload 4, 2) := by decide +kernel
theorem dX1_enter_52 : decode cX1_enter 52 = .ok (.iastore, 1) := by decide +kernel
theorem dX1_enter_53 : decode cX1_enter 53 = .ok (.iload 5, 2) := by decide +kernel
theorem dX1_enter_55 : decode cX1_enter 55 = .ok (.ifCond .eq 16, 3) := by decide +kernel
theorem dX1_enter_58 : decode cX1_enter 58 = .ok (.aload_n 0, 1) := by decide +kernel
theorem dX1_enter_59 : decode cX1_enter 59 = .ok (.dup, 1) := by decide +kernel
theorem dX1_enter_60 : decode cX1_enter 60 = .ok (.getfield 31, 3) := by decide +kernel
theorem dX1_enter_63 : decode cX1_enter 63 = .ok (.iconst 1, 1) := by decide +kernel
theorem dX1_enter_64 : decode cX1_enter 64 = .ok (.iload 6, 2) := by decide +kernel
theorem dX1_enter_66 : decode cX1_enter 66 = .ok (.ishl, 1) := by decide +kernel
theorem dX1_enter_67 : decode cX1_enter 67 = .ok (.ior, 1) := by decide +kernel
theorem dX1_enter_68 : decode cX1_enter 68 = .ok (.putfield 31, 3) := by decide +kernel
theorem dX1_enter_71 : decode cX1_enter 71 = .ok (.aload_n 0, 1) := by decide +kernel
theorem dX1_enter_72 : decode cX1_enter 72 = .ok (.dup, 1) := by decide +kernel
theorem dX1_enter_73 : decode cX1_enter 73 = .ok (.getfield 27, 3) := by decide +kernel
theorem dX1_enter_76 : decode cX1_enter 76 = .ok (.iconst 1, 1) := by decide +kernel
theorem dX1_enter_77 : decode cX1_enter 77 = .ok (.iadd, 1) := by decide +kernel
theorem dX1_enter_78 : decode cX1_enter 78 = .ok (.putfield 27, 3) := by decide +kernel
theorem dX1_enter_81 : decode cX1_enter 81 = .ok (.iload 6, 2) := by decide +kernel
theorem dX1_enter_83 : decode cX1_enter 83 = .ok (.ireturn, 1) := by decide +kernel
theorem dX1_has_0 : decode cX1_has 0 = .ok (.iload_n 1, 1) := by decide +kernel
theorem dX1_has_1 : decode cX1_has 1 = .ok (.iconst 0, 1) := by decide +kernel
theorem dX1_has_2 : decode cX1_has 2 = .ok (.aload_n 0, 1) := by decide +kernel
theorem dX1_has_3 : decode cX1_has 3 = .ok (.getfield 27, 3) := by decide +kernel
theorem dX1_has_6 : decode cX1_has 6 = .ok (.iconst 1, 1) := by decide +kernel
theorem dX1_has_7 : decode cX1_has 7 = .ok (.isub, 1) := by decide +kernel
theorem dX1_has_8 : decode cX1_has 8 = .ok (.invokestatic 34, 3) := by decide +kernel
theorem dX1_has_11 : decode cX1_has 11 = .ok (.ireturn, 1) := by decide +kernel
theorem dX1_all_0 : decode cX1_all 0 = .ok (.iconst 1, 1) := by decide +kernel
theorem dX1_all_1 : decode cX1_all 1 = .ok (.aload_n 0, 1) := by decide +kernel
theorem dX1_all_2 : decode cX1_all 2 = .ok (.getfield 27, 3) := by decide +kernel
theorem dX1_all_5 : decode cX1_all 5 = .ok (.ishl, 1) := by decide +kernel
theorem dX1_all_6 : decode cX1_all 6 = .ok (.iconst 1, 1) := by decide +kernel
theorem dX1_all_7 : decode cX1_all 7 = .ok (.isub, 1) := by decide +kernel
theorem dX1_all_8 : decode cX1_all 8 = .ok (.ireturn, 1) := by decide +kernel
theorem dX1_isLine_0 : decode cX1_isLine 0 = .ok (.iload_n 1, 1) := by decide +kernel
theorem dX1_isLine_1 : decode cX1_isLine 1 = .ok (.aload_n 0, 1) := by decide +kernel
theorem dX1_isLine_2 : decode cX1_isLine 2 = .ok (.invokevirtual 38, 3) := by decide +kernel
theorem dX1_isLine_5 : decode cX1_isLine 5 = .ok (.iconst (-1), 1) := by decide +kernel
theorem dX1_isLine_6 : decode cX1_isLine 6 = .ok (.ixor, 1) := by decide +kernel
theorem dX1_isLine_7 : decode cX1_isLine 7 = .ok (.iand, 1) := by decide +kernel
theorem dX1_isLine_8 : decode cX1_isLine 8 = .ok (.ifCond .ne 7, 3) := by decide +kernel
theorem dX1_isLine_11 : decode cX1_isLine 11 = .ok (.iconst 1, 1) := by decide +kernel
theorem dX1_isLine_12 : decode cX1_isLine 12 = .ok (.goto 4, 3) := by decide +kernel
theorem dX1_isLine_15 : decode cX1_isLine 15 = .ok (.iconst 0, 1) := by decide +kernel
theorem dX1_isLine_16 : decode cX1_isLine 16 = .ok (.ireturn, 1) := by decide +kernel
theorem dX1_daysOf_0 : decode cX1_daysOf 0 = .ok (.iconst 0, 1) := by decide +kernel
theorem dX1_daysOf_1 : decode cX1_daysOf 1 = .ok (.istore_n 2, 1) := by decide +kernel
theorem dX1_daysOf_2 : decode cX1_daysOf 2 = .ok (.iconst 0, 1) := by decide +kernel
theorem dX1_daysOf_3 : decode cX1_daysOf 3 = .ok (.istore_n 3, 1) := by decide +kernel
theorem dX1_daysOf_4 : decode cX1_daysOf 4 = .ok (.iload_n 3, 1) := by decide +kernel
theorem dX1_daysOf_5 : decode cX1_daysOf 5 = .ok (.aload_n 0, 1) := by decide +kernel
theorem dX1_daysOf_6 : decode cX1_daysOf 6 = .ok (.getfield 27, 3) := by decide +kernel
theorem dX1_daysOf_9 : decode cX1_daysOf 9 = .ok (.if_icmp .ge 26, 3) := by decide +kernel
theorem dX1_daysOf_12 : decode cX1_daysOf 12 = .ok (.iload_n 3, 1) := by decide +kernel
theorem dX1_daysOf_13 : decode cX1_daysOf 13 = .ok (.iload_n 1, 1) := by decide +kernel
theorem dX1_daysOf_14 : decode cX1_daysOf 14 = .ok (.invokestatic 42, 3) := by decide +kernel
theorem dX1_daysOf_17 : decode cX1_daysOf 17 = .ok (.ifCond .eq 12, 3) := by decide +kernel
theorem dX1_daysOf_20 : decode cX1_daysOf 20 = .ok (.iload_n 2, 1) := by decide +kernel
theorem dX1_daysOf_21 : decode cX1_daysOf 21 = .ok (.aload_n 0, 1) := by decide +kernel
theorem dX1_daysOf_22 : decode cX1_daysOf 22 = .ok (.getfield 18, 3) := by decide +kernel
theorem dX1_daysOf_25 : decode cX1_daysOf 25 = .ok (.iload_n 3, 1) := by decide +kernel
theorem dX1_daysOf_26 : decode cX1_daysOf 26 = .ok (.iaload, 1) := by decide +kernel
theorem dX1_daysOf_27 : decode cX1_daysOf 27 = .ok (.ior, 1) := by decide +kernel
theorem dX1_daysOf_28 : decode cX1_daysOf 28 = .ok (.istore_n 2, 1) := by decide +kernel
theorem dX1_daysOf_29 : decode cX1_daysOf 29 = .ok (.iinc 3 1, 3) := by decide +kernel
theorem dX1_daysOf_32 : decode cX1_daysOf 32 = .ok (.goto (-28), 3) := by decide +kernel
theorem dX1_daysOf_35 : decode cX1_daysOf 35 = .ok (.iload_n 2, 1) := by decide +kernel
theorem dX1_daysOf_36 : decode cX1_daysOf 36 = .ok (.ireturn, 1) := by decide +kernel
theorem dX1_skillsOf_0 : decode cX1_skillsOf 0 = .ok (.iconst 0, 1) := by decide +kernel
theorem dX1_skillsOf_1 : decode cX1_skillsOf 1 = .ok (.istore_n 2, 1) := by decide +kernel
theorem dX1_skillsOf_2 : decode cX1_skillsOf 2 = .ok (.iconst 0, 1) := by decide +kernel
theorem dX1_skillsOf_3 : decode cX1_skillsOf 3 = .ok (.istore_n 3, 1) := by decide +kernel
theorem dX1_skillsOf_4 : decode cX1_skillsOf 4 = .ok (.iload_n 3, 1) := by decide +kernel
theorem dX1_skillsOf_5 : decode cX1_skillsOf 5 = .ok (.aload_n 0, 1) := by decide +kernel
theorem dX1_skillsOf_6 : decode cX1_skillsOf 6 = .ok (.getfield 27, 3) := by decide +kernel
theorem dX1_skillsOf_9 : decode cX1_skillsOf 9 = .ok (.if_icmp .ge 28, 3) := by decide +kernel
theorem dX1_skillsOf_12 : decode cX1_skillsOf 12 = .ok (.iload_n 3, 1) := by decide +kernel
theorem dX1_skillsOf_13 : decode cX1_skillsOf 13 = .ok (.iload_n 1, 1) := by decide +kernel
theorem dX1_skillsOf_14 : decode cX1_skillsOf 14 = .ok (.invokestatic 42, 3) := by decide +kernel
theorem dX1_skillsOf_17 : decode cX1_skillsOf 17 = .ok (.ifCond .eq 14, 3) := by decide +kernel
theorem dX1_skillsOf_20 : decode cX1_skillsOf 20 = .ok (.iload_n 2, 1) := by decide +kernel
theorem dX1_skillsOf_21 : decode cX1_skillsOf 21 = .ok (.iconst 1, 1) := by decide +kernel
theorem dX1_skillsOf_22 : decode cX1_skillsOf 22 = .ok (.aload_n 0, 1) := by decide +kernel
theorem dX1_skillsOf_23 : decode cX1_skillsOf 23 = .ok (.getfield 24, 3) := by decide +kernel
theorem dX1_skillsOf_26 : decode cX1_skillsOf 26 = .ok (.iload_n 3, 1) := by decide +kernel
theorem dX1_skillsOf_27 : decode cX1_skillsOf 27 = .ok (.iaload, 1) := by decide +kernel
theorem dX1_skillsOf_28 : decode cX1_skillsOf 28 = .ok (.ishl, 1) := by decide +kernel
theorem dX1_skillsOf_29 : decode cX1_skillsOf 29 = .ok (.ior, 1) := by decide +kernel
theorem dX1_skillsOf_30 : decode cX1_skillsOf 30 = .ok (.istore_n 2, 1) := by decide +kernel
theorem dX1_skillsOf_31 : decode cX1_skillsOf 31 = .ok (.iinc 3 1, 3) := by decide +kernel
theorem dX1_skillsOf_34 : decode cX1_skillsOf 34 = .ok (.goto (-30), 3) := by decide +kernel
theorem dX1_skillsOf_37 : decode cX1_skillsOf 37 = .ok (.iload_n 2, 1) := by decide +kernel
theorem dX1_skillsOf_38 : decode cX1_skillsOf 38 = .ok (.ireturn, 1) := by decide +kernel
theorem dX1_hoursOf_0 : decode cX1_hoursOf 0 = .ok (.iconst 0, 1) := by decide +kernel
theorem dX1_hoursOf_1 : decode cX1_hoursOf 1 = .ok (.istore_n 2, 1) := by decide +kernel
theorem dX1_hoursOf_2 : decode cX1_hoursOf 2 = .ok (.iconst 0, 1) := by decide +kernel
theorem dX1_hoursOf_3 : decode cX1_hoursOf 3 = .ok (.istore_n 3, 1) := by decide +kernel
theorem dX1_hoursOf_4 : decode cX1_hoursOf 4 = .ok (.iload_n 3, 1) := by decide +kernel
theorem dX1_hoursOf_5 : decode cX1_hoursOf 5 = .ok (.aload_n 0, 1) := by decide +kernel
theorem dX1_hoursOf_6 : decode cX1_hoursOf 6 = .ok (.getfield 27, 3) := by decide +kernel
theorem dX1_hoursOf_9 : decode cX1_hoursOf 9 = .ok (.if_icmp .ge 26, 3) := by decide +kernel
theorem dX1_hoursOf_12 : decode cX1_hoursOf 12 = .ok (.iload_n 3, 1) := by decide +kernel
theorem dX1_hoursOf_13 : decode cX1_hoursOf 13 = .ok (.iload_n 1, 1) := by decide +kernel
theorem dX1_hoursOf_14 : decode cX1_hoursOf 14 = .ok (.invokestatic 42, 3) := by decide +kernel
theorem dX1_hoursOf_17 : decode cX1_hoursOf 17 = .ok (.ifCond .eq 12, 3) := by decide +kernel
theorem dX1_hoursOf_20 : decode cX1_hoursOf 20 = .ok (.iload_n 2, 1) := by decide +kernel
theorem dX1_hoursOf_21 : decode cX1_hoursOf 21 = .ok (.aload_n 0, 1) := by decide +kernel
theorem dX1_hoursOf_22 : decode cX1_hoursOf 22 = .ok (.getfield 21, 3) := by decide +kernel
theorem dX1_hoursOf_25 : decode cX1_hoursOf 25 = .ok (.iload_n 3, 1) := by decide +kernel
theorem dX1_hoursOf_26 : decode cX1_hoursOf 26 = .ok (.iaload, 1) := by decide +kernel
theorem dX1_hoursOf_27 : decode cX1_hoursOf 27 = .ok (.iadd, 1) := by decide +kernel
theorem dX1_hoursOf_28 : decode cX1_hoursOf 28 = .ok (.istore_n 2, 1) := by decide +kernel
theorem dX1_hoursOf_29 : decode cX1_hoursOf 29 = .ok (.iinc 3 1, 3) := by decide +kernel
theorem dX1_hoursOf_32 : decode cX1_hoursOf 32 = .ok (.goto (-28), 3) := by decide +kernel
theorem dX1_hoursOf_35 : decode cX1_hoursOf 35 = .ok (.iload_n 2, 1) := by decide +kernel
theorem dX1_hoursOf_36 : decode cX1_hoursOf 36 = .ok (.ireturn, 1) := by decide +kernel
theorem dX1_beginning_0 : decode cX1_beginning 0 = .ok (.iconst 0, 1) := by decide +kernel
theorem dX1_beginning_1 : decode cX1_beginning 1 = .ok (.istore_n 3, 1) := by decide +kernel
theorem dX1_beginning_2 : decode cX1_beginning 2 = .ok (.iconst 0, 1) := by decide +kernel
theorem dX1_beginning_3 : decode cX1_beginning 3 = .ok (.istore 4, 2) := by decide +kernel
theorem dX1_beginning_5 : decode cX1_beginning 5 = .ok (.iload 4, 2) := by decide +kernel
theorem dX1_beginning_7 : decode cX1_beginning 7 = .ok (.aload_n 0, 1) := by decide +kernel
theorem dX1_beginning_8 : decode cX1_beginning 8 = .ok (.getfield 27, 3) := by decide +kernel
theorem dX1_beginning_11 : decode cX1_beginning 11 = .ok (.if_icmp .ge 38, 3) := by decide +kernel
theorem dX1_beginning_14 : decode cX1_beginning 14 = .ok (.aload_n 0, 1) := by decide +kernel
theorem dX1_beginning_15 : decode cX1_beginning 15 = .ok (.getfield 9, 3) := by decide +kernel
theorem dX1_beginning_18 : decode cX1_beginning 18 = .ok (.iload 4, 2) := by decide +kernel
theorem dX1_beginning_20 : decode cX1_beginning 20 = .ok (.iaload, 1) := by decide +kernel
theorem dX1_beginning_21 : decode cX1_beginning 21 = .ok (.iload_n 1, 1) := by decide +kernel
theorem dX1_beginning_22 : decode cX1_beginning 22 = .ok (.if_icmp .lt 21, 3) := by decide +kernel
theorem dX1_beginning_25 : decode cX1_beginning 25 = .ok (.aload_n 0, 1) := by decide +kernel
theorem dX1_beginning_26 : decode cX1_beginning 26 = .ok (.getfield 9, 3) := by decide +kernel
theorem dX1_beginning_29 : decode cX1_beginning 29 = .ok (.iload 4, 2) := by decide +kernel
theorem dX1_beginning_31 : decode cX1_beginning 31 = .ok (.iaload, 1) := by decide +kernel
theorem dX1_beginning_32 : decode cX1_beginning 32 = .ok (.iload_n 2, 1) := by decide +kernel
theorem dX1_beginning_33 : decode cX1_beginning 33 = .ok (.if_icmp .ge 10, 3) := by decide +kernel
theorem dX1_beginning_36 : decode cX1_beginning 36 = .ok (.iload_n 3, 1) := by decide +kernel
theorem dX1_beginning_37 : decode cX1_beginning 37 = .ok (.iconst 1, 1) := by decide +kernel
theorem dX1_beginning_38 : decode cX1_beginning 38 = .ok (.iload 4, 2) := by decide +kernel
theorem dX1_beginning_40 : decode cX1_beginning 40 = .ok (.ishl, 1) := by decide +kernel
theorem dX1_beginning_41 : decode cX1_beginning 41 = .ok (.ior, 1) := by decide +kernel
theorem dX1_beginning_42 : decode cX1_beginning 42 = .ok (.istore_n 3, 1) := by decide +kernel
theorem dX1_beginning_43 : decode cX1_beginning 43 = .ok (.iinc 4 1, 3) := by decide +kernel
theorem dX1_beginning_46 : decode cX1_beginning 46 = .ok (.goto (-41), 3) := by decide +kernel
theorem dX1_beginning_49 : decode cX1_beginning 49 = .ok (.iload_n 3, 1) := by decide +kernel
theorem dX1_beginning_50 : decode cX1_beginning 50 = .ok (.ireturn, 1) := by decide +kernel
theorem dX2_init_0 : decode cX2_init 0 = .ok (.aload_n 0, 1) := by decide +kernel
theorem dX2_init_1 : decode cX2_init 1 = .ok (.invokespecial 3, 3) := by decide +kernel
theorem dX2_init_4 : decode cX2_init 4 = .ok (.aload_n 0, 1) := by decide +kernel
theorem dX2_init_5 : decode cX2_init 5 = .ok (.iconst 4, 1) := by decide +kernel
theorem dX2_init_6 : decode cX2_init 6 = .ok (.anewarray 9, 3) := by decide +kernel
theorem dX2_init_9 : decode cX2_init 9 = .ok (.putfield 11, 3) := by decide +kernel
theorem dX2_init_12 : decode cX2_init 12 = .ok (.iconst 0, 1) := by decide +kernel
theorem dX2_init_13 : decode cX2_init 13 = .ok (.istore_n 1, 1) := by decide +kernel
theorem dX2_init_14 : decode cX2_init 14 = .ok (.iload_n 1, 1) := by decide +kernel
theorem dX2_init_15 : decode cX2_init 15 = .ok (.iconst 4, 1) := by decide +kernel
theorem dX2_init_16 : decode cX2_init 16 = .ok (.if_icmp .ge 22, 3) := by decide +kernel
theorem dX2_init_19 : decode cX2_init 19 = .ok (.aload_n 0, 1) := by decide +kernel
theorem dX2_init_20 : decode cX2_init 20 = .ok (.getfield 11, 3) := by decide +kernel
theorem dX2_init_23 : decode cX2_init 23 = .ok (.iload_n 1, 1) := by decide +kernel
theorem dX2_init_24 : decode cX2_init 24 = .ok (.new 9, 3) := by decide +kernel
theorem dX2_init_27 : decode cX2_init 27 = .ok (.dup, 1) := by decide +kernel
theorem dX2_init_28 : decode cX2_init 28 = .ok (.invokespecial 17, 3) := by decide +kernel
theorem dX2_init_31 : decode cX2_init 31 = .ok (.aastore, 1) := by decide +kernel
theorem dX2_init_32 : decode cX2_init 32 = .ok (.iinc 1 1, 3) := by decide +kernel
theorem dX2_init_35 : decode cX2_init 35 = .ok (.goto (-21), 3) := by decide +kernel
theorem dX2_init_38 : decode cX2_init 38 = .ok (.return_, 1) := by decide +kernel
theorem dX2_enter_0 : decode cX2_enter 0 = .ok (.aload_n 0, 1) := by decide +kernel
theorem dX2_enter_1 : decode cX2_enter 1 = .ok (.getfield 18, 3) := by decide +kernel
theorem dX2_enter_4 : decode cX2_enter 4 = .ok (.istore_n 3, 1) := by decide +kernel
theorem dX2_enter_5 : decode cX2_enter 5 = .ok (.aload_n 0, 1) := by decide +kernel
theorem dX2_enter_6 : decode cX2_enter 6 = .ok (.getfield 11, 3) := by decide +kernel
theorem dX2_enter_9 : decode cX2_enter 9 = .ok (.iload_n 3, 1) := by decide +kernel
theorem dX2_enter_10 : decode cX2_enter 10 = .ok (.aaload, 1) := by decide +kernel
theorem dX2_enter_11 : decode cX2_enter 11 = .ok (.iload_n 1, 1) := by decide +kernel
theorem dX2_enter_12 : decode cX2_enter 12 = .ok (.putfield 22, 3) := by decide +kernel
theorem dX2_enter_15 : decode cX2_enter 15 = .ok (.aload_n 0, 1) := by decide +kernel
theorem dX2_enter_16 : decode cX2_enter 16 = .ok (.getfield 11, 3) := by decide +kernel
theorem dX2_enter_19 : decode cX2_enter 19 = .ok (.iload_n 3, 1) := by decide +kernel
theorem dX2_enter_20 : decode cX2_enter 20 = .ok (.aaload, 1) := by decide +kernel
theorem dX2_enter_21 : decode cX2_enter 21 = .ok (.iload_n 2, 1) := by decide +kernel
theorem dX2_enter_22 : decode cX2_enter 22 = .ok (.putfield 25, 3) := by decide +kernel
theorem dX2_enter_25 : decode cX2_enter 25 = .ok (.aload_n 0, 1) := by decide +kernel
theorem dX2_enter_26 : decode cX2_enter 26 = .ok (.dup, 1) := by decide +kernel
theorem dX2_enter_27 : decode cX2_enter 27 = .ok (.getfield 18, 3) := by decide +kernel
theorem dX2_enter_30 : decode cX2_enter 30 = .ok (.iconst 1, 1) := by decide +kernel
theorem dX2_enter_31 : decode cX2_enter 31 = .ok (.iadd, 1) := by decide +kernel
theorem dX2_enter_32 : decode cX2_enter 32 = .ok (.putfield 18, 3) := by decide +kernel
theorem dX2_enter_35 : decode cX2_enter 35 = .ok (.iload_n 3, 1) := by decide +kernel
theorem dX2_enter_36 : decode cX2_enter 36 = .ok (.ireturn, 1) := by decide +kernel
theorem dX2_has_0 : decode cX2_has 0 = .ok (.iload_n 1, 1) := by decide +kernel
theorem dX2_has_1 : decode cX2_has 1 = .ok (.iconst 0, 1) := by decide +kernel
theorem dX2_has_2 : decode cX2_has 2 = .ok (.aload_n 0, 1) := by decide +kernel
theorem dX2_has_3 : decode cX2_has 3 = .ok (.getfield 18, 3) := by decide +kernel
theorem dX2_has_6 : decode cX2_has 6 = .ok (.iconst 1, 1) := by decide +kernel
theorem dX2_has_7 : decode cX2_has 7 = .ok (.isub, 1) := by decide +kernel
theorem dX2_has_8 : decode cX2_has 8 = .ok (.invokestatic 28, 3) := by decide +kernel
theorem dX2_has_11 : decode cX2_has 11 = .ok (.ireturn, 1) := by decide +kernel
theorem dX2_from_0 : decode cX2_from 0 = .ok (.iconst 1, 1) := by decide +kernel
theorem dX2_from_1 : decode cX2_from 1 = .ok (.aload_n 0, 1) := by decide +kernel
theorem dX2_from_2 : decode cX2_from 2 = .ok (.getfield 18, 3) := by decide +kernel
theorem dX2_from_5 : decode cX2_from 5 = .ok (.ishl, 1) := by decide +kernel
theorem dX2_from_6 : decode cX2_from 6 = .ok (.iconst 1, 1) := by decide +kernel
theorem dX2_from_7 : decode cX2_from 7 = .ok (.iload_n 1, 1) := by decide +kernel
theorem dX2_from_8 : decode cX2_from 8 = .ok (.ishl, 1) := by decide +kernel
theorem dX2_from_9 : decode cX2_from 9 = .ok (.isub, 1) := by decide +kernel
theorem dX2_from_10 : decode cX2_from 10 = .ok (.ireturn, 1) := by decide +kernel
theorem dX2_allHeld_0 : decode cX2_allHeld 0 = .ok (.iconst 0, 1) := by decide +kernel
theorem dX2_allHeld_1 : decode cX2_allHeld 1 = .ok (.istore_n 1, 1) := by decide +kernel
theorem dX2_allHeld_2 : decode cX2_allHeld 2 = .ok (.iconst 0, 1) := by decide +kernel
theorem dX2_allHeld_3 : decode cX2_allHeld 3 = .ok (.istore_n 2, 1) := by decide +kernel
theorem dX2_allHeld_4 : decode cX2_allHeld 4 = .ok (.iload_n 2, 1) := by decide +kernel
theorem dX2_allHeld_5 : decode cX2_allHeld 5 = .ok (.aload_n 0, 1) := by decide +kernel
theorem dX2_allHeld_6 : decode cX2_allHeld 6 = .ok (.getfield 18, 3) := by decide +kernel
theorem dX2_allHeld_9 : decode cX2_allHeld 9 = .ok (.if_icmp .ge 21, 3) := by decide +kernel
theorem dX2_allHeld_12 : decode cX2_allHeld 12 = .ok (.iload_n 1, 1) := by decide +kernel
theorem dX2_allHeld_13 : decode cX2_allHeld 13 = .ok (.aload_n 0, 1) := by decide +kernel
theorem dX2_allHeld_14 : decode cX2_allHeld 14 = .ok (.getfield 11, 3) := by decide +kernel
theorem dX2_allHeld_17 : decode cX2_allHeld 17 = .ok (.iload_n 2, 1) := by decide +kernel
theorem dX2_allHeld_18 : decode cX2_allHeld 18 = .ok (.aaload, 1) := by decide +kernel
theorem dX2_allHeld_19 : decode cX2_allHeld 19 = .ok (.getfield 32, 3) := by decide +kernel
theorem dX2_allHeld_22 : decode cX2_allHeld 22 = .ok (.ior, 1) := by decide +kernel
theorem dX2_allHeld_23 : decode cX2_allHeld 23 = .ok (.istore_n 1, 1) := by decide +kernel
theorem dX2_allHeld_24 : decode cX2_allHeld 24 = .ok (.iinc 2 1, 3) := by decide +kernel
theorem dX2_allHeld_27 : decode cX2_allHeld 27 = .ok (.goto (-23), 3) := by decide +kernel
theorem dX2_allHeld_30 : decode cX2_allHeld 30 = .ok (.iload_n 1, 1) := by decide +kernel
theorem dX2_allHeld_31 : decode cX2_allHeld 31 = .ok (.ireturn, 1) := by decide +kernel
theorem dX2_allWishes_0 : decode cX2_allWishes 0 = .ok (.iconst 0, 1) := by decide +kernel
theorem dX2_allWishes_1 : decode cX2_allWishes 1 = .ok (.istore_n 1, 1) := by decide +kernel
theorem dX2_allWishes_2 : decode cX2_allWishes 2 = .ok (.iconst 0, 1) := by decide +kernel
theorem dX2_allWishes_3 : decode cX2_allWishes 3 = .ok (.istore_n 2, 1) := by decide +kernel
theorem dX2_allWishes_4 : decode cX2_allWishes 4 = .ok (.iload_n 2, 1) := by decide +kernel
theorem dX2_allWishes_5 : decode cX2_allWishes 5 = .ok (.aload_n 0, 1) := by decide +kernel
theorem dX2_allWishes_6 : decode cX2_allWishes 6 = .ok (.getfield 18, 3) := by decide +kernel
theorem dX2_allWishes_9 : decode cX2_allWishes 9 = .ok (.if_icmp .ge 21, 3) := by decide +kernel
theorem dX2_allWishes_12 : decode cX2_allWishes 12 = .ok (.iload_n 1, 1) := by decide +kernel
theorem dX2_allWishes_13 : decode cX2_allWishes 13 = .ok (.aload_n 0, 1) := by decide +kernel
theorem dX2_allWishes_14 : decode cX2_allWishes 14 = .ok (.getfield 11, 3) := by decide +kernel
theorem dX2_allWishes_17 : decode cX2_allWishes 17 = .ok (.iload_n 2, 1) := by decide +kernel
theorem dX2_allWishes_18 : decode cX2_allWishes 18 = .ok (.aaload, 1) := by decide +kernel
theorem dX2_allWishes_19 : decode cX2_allWishes 19 = .ok (.getfield 35, 3) := by decide +kernel
theorem dX2_allWishes_22 : decode cX2_allWishes 22 = .ok (.iadd, 1) := by decide +kernel
theorem dX2_allWishes_23 : decode cX2_allWishes 23 = .ok (.istore_n 1, 1) := by decide +kernel
theorem dX2_allWishes_24 : decode cX2_allWishes 24 = .ok (.iinc 2 1, 3) := by decide +kernel
theorem dX2_allWishes_27 : decode cX2_allWishes 27 = .ok (.goto (-23), 3) := by decide +kernel
theorem dX2_allWishes_30 : decode cX2_allWishes 30 = .ok (.iload_n 1, 1) := by decide +kernel
theorem dX2_allWishes_31 : decode cX2_allWishes 31 = .ok (.ireturn, 1) := by decide +kernel
theorem dX2_allWishesMet_0 : decode cX2_allWishesMet 0 = .ok (.iconst 0, 1) := by decide +kernel
theorem dX2_allWishesMet_1 : decode cX2_allWishesMet 1 = .ok (.istore_n 2, 1) := by decide +kernel
theorem dX2_allWishesMet_2 : decode cX2_allWishesMet 2 = .ok (.iconst 0, 1) := by decide +kernel
theorem dX2_allWishesMet_3 : decode cX2_allWishesMet 3 = .ok (.istore_n 3, 1) := by decide +kernel
theorem dX2_allWishesMet_4 : decode cX2_allWishesMet 4 = .ok (.iload_n 3, 1) := by decide +kernel
theorem dX2_allWishesMet_5 : decode cX2_allWishesMet 5 = .ok (.aload_n 0, 1) := by decide +kernel
theorem dX2_allWishesMet_6 : decode cX2_allWishesMet 6 = .ok (.getfield 18, 3) := by decide +kernel
theorem dX2_allWishesMet_9 : decode cX2_allWishesMet 9 = .ok (.if_icmp .ge 22, 3) := by decide +kernel
theorem dX2_allWishesMet_12 : decode cX2_allWishesMet 12 = .ok (.iload_n 2, 1) := by decide +kernel
theorem dX2_allWishesMet_13 : decode cX2_allWishesMet 13 = .ok (.aload_n 0, 1) := by decide +kernel
theorem dX2_allWishesMet_14 : decode cX2_allWishesMet 14 = .ok (.getfield 11, 3) := by decide +kernel
theorem dX2_allWishesMet_17 : decode cX2_allWishesMet 17 = .ok (.iload_n 3, 1) := by decide +kernel
theorem dX2_allWishesMet_18 : decode cX2_allWishesMet 18 = .ok (.aaload, 1) := by decide +kernel
theorem dX2_allWishesMet_19 : decode cX2_allWishesMet 19 = .ok (.aload_n 1, 1) := by decide +kernel
theorem dX2_allWishesMet_20 : decode cX2_allWishesMet 20 = .ok (.invokevirtual 38, 3) := by decide +kernel
theorem dX2_allWishesMet_23 : decode cX2_allWishesMet 23 = .ok (.iadd, 1) := by decide +kernel
theorem dX2_allWishesMet_24 : decode cX2_allWishesMet 24 = .ok (.istore_n 2, 1) := by decide +kernel
theorem dX2_allWishesMet_25 : decode cX2_allWishesMet 25 = .ok (.iinc 3 1, 3) := by decide +kernel
theorem dX2_allWishesMet_28 : decode cX2_allWishesMet 28 = .ok (.goto (-24), 3) := by decide +kernel
theorem dX2_allWishesMet_31 : decode cX2_allWishesMet 31 = .ok (.iload_n 2, 1) := by decide +kernel
theorem dX2_allWishesMet_32 : decode cX2_allWishesMet 32 = .ok (.ireturn, 1) := by decide +kernel
theorem dX3_init_0 : decode cX3_init 0 = .ok (.aload_n 0, 1) := by decide +kernel
theorem dX3_init_1 : decode cX3_init 1 = .ok (.invokespecial 3, 3) := by decide +kernel
theorem dX3_init_4 : decode cX3_init 4 = .ok (.aload_n 0, 1) := by decide +kernel
theorem dX3_init_5 : decode cX3_init 5 = .ok (.iconst 5, 1) := by decide +kernel
theorem dX3_init_6 : decode cX3_init 6 = .ok (.newarray .int, 2) := by decide +kernel
theorem dX3_init_8 : decode cX3_init 8 = .ok (.putfield 9, 3) := by decide +kernel
theorem dX3_init_11 : decode cX3_init 11 = .ok (.aload_n 0, 1) := by decide +kernel
theorem dX3_init_12 : decode cX3_init 12 = .ok (.iconst 5, 1) := by decide +kernel
theorem dX3_init_13 : decode cX3_init 13 = .ok (.newarray .int, 2) := by decide +kernel
theorem dX3_init_15 : decode cX3_init 15 = .ok (.putfield 15, 3) := by decide +kernel
theorem dX3_init_18 : decode cX3_init 18 = .ok (.return_, 1) := by decide +kernel
theorem dX3_enterWish_0 : decode cX3_enterWish 0 = .ok (.aload_n 0, 1) := by decide +kernel
theorem dX3_enterWish_1 : decode cX3_enterWish 1 = .ok (.getfield 18, 3) := by decide +kernel
theorem dX3_enterWish_4 : decode cX3_enterWish 4 = .ok (.istore_n 3, 1) := by decide +kernel
theorem dX3_enterWish_5 : decode cX3_enterWish 5 = .ok (.aload_n 0, 1) := by decide +kernel
theorem dX3_enterWish_6 : decode cX3_enterWish 6 = .ok (.getfield 9, 3) := by decide +kernel
theorem dX3_enterWish_9 : decode cX3_enterWish 9 = .ok (.iload_n 3, 1) := by decide +kernel
theorem dX3_enterWish_10 : decode cX3_enterWish 10 = .ok (.iload_n 1, 1) := by decide +kernel
theorem dX3_enterWish_11 : decode cX3_enterWish 11 = .ok (.iastore, 1) := by decide +kernel
theorem dX3_enterWish_12 : decode cX3_enterWish 12 = .ok (.aload_n 0, 1) := by decide +kernel
theorem dX3_enterWish_13 : decode cX3_enterWish 13 = .ok (.getfield 15, 3) := by decide +kernel
theorem dX3_enterWish_16 : decode cX3_enterWish 16 = .ok (.iload_n 3, 1) := by decide +kernel
theorem dX3_enterWish_17 : decode cX3_enterWish 17 = .ok (.iload_n 2, 1) := by decide +kernel
theorem dX3_enterWish_18 : decode cX3_enterWish 18 = .ok (.iastore, 1) := by decide +kernel
theorem dX3_enterWish_19 : decode cX3_enterWish 19 = .ok (.aload_n 0, 1) := by decide +kernel
theorem dX3_enterWish_20 : decode cX3_enterWish 20 = .ok (.dup, 1) := by decide +kernel
theorem dX3_enterWish_21 : decode cX3_enterWish 21 = .ok (.getfield 18, 3) := by decide +kernel
theorem dX3_enterWish_24 : decode cX3_enterWish 24 = .ok (.iconst 1, 1) := by decide +kernel
theorem dX3_enterWish_25 : decode cX3_enterWish 25 = .ok (.iadd, 1) := by decide +kernel
theorem dX3_enterWish_26 : decode cX3_enterWish 26 = .ok (.putfield 18, 3) := by decide +kernel
theorem dX3_enterWish_29 : decode cX3_enterWish 29 = .ok (.iload_n 3, 1) := by decide +kernel
theorem dX3_enterWish_30 : decode cX3_enterWish 30 = .ok (.ireturn, 1) := by decide +kernel
theorem dX3_hasWish_0 : decode cX3_hasWish 0 = .ok (.iload_n 1, 1) := by decide +kernel
theorem dX3_hasWish_1 : decode cX3_hasWish 1 = .ok (.iconst 0, 1) := by decide +kernel
theorem dX3_hasWish_2 : decode cX3_hasWish 2 = .ok (.aload_n 0, 1) := by decide +kernel
theorem dX3_hasWish_3 : decode cX3_hasWish 3 = .ok (.getfield 18, 3) := by decide +kernel
theorem dX3_hasWish_6 : decode cX3_hasWish 6 = .ok (.iconst 1, 1) := by decide +kernel
theorem dX3_hasWish_7 : decode cX3_hasWish 7 = .ok (.isub, 1) := by decide +kernel
theorem dX3_hasWish_8 : decode cX3_hasWish 8 = .ok (.invokestatic 22, 3) := by decide +kernel
theorem dX3_hasWish_11 : decode cX3_hasWish 11 = .ok (.ireturn, 1) := by decide +kernel
theorem dX3_hasSkills_0 : decode cX3_hasSkills 0 = .ok (.aload_n 1, 1) := by decide +kernel
theorem dX3_hasSkills_1 : decode cX3_hasSkills 1 = .ok (.iload_n 2, 1) := by decide +kernel
theorem dX3_hasSkills_2 : decode cX3_hasSkills 2 = .ok (.invokevirtual 26, 3) := by decide +kernel
theorem dX3_hasSkills_5 : decode cX3_hasSkills 5 = .ok (.aload_n 0, 1) := by decide +kernel
theorem dX3_hasSkills_6 : decode cX3_hasSkills 6 = .ok (.getfield 32, 3) := by decide +kernel
theorem dX3_hasSkills_9 : decode cX3_hasSkills 9 = .ok (.iconst (-1), 1) := by decide +kernel
theorem dX3_hasSkills_10 : decode cX3_hasSkills 10 = .ok (.ixor, 1) := by decide +kernel
theorem dX3_hasSkills_11 : decode cX3_hasSkills 11 = .ok (.iand, 1) := by decide +kernel
theorem dX3_hasSkills_12 : decode cX3_hasSkills 12 = .ok (.ifCond .ne 7, 3) := by decide +kernel
theorem dX3_hasSkills_15 : decode cX3_hasSkills 15 = .ok (.iconst 1, 1) := by decide +kernel
theorem dX3_hasSkills_16 : decode cX3_hasSkills 16 = .ok (.goto 4, 3) := by decide +kernel
theorem dX3_hasSkills_19 : decode cX3_hasSkills 19 = .ok (.iconst 0, 1) := by decide +kernel
theorem dX3_hasSkills_20 : decode cX3_hasSkills 20 = .ok (.ireturn, 1) := by decide +kernel
theorem dX3_hasHours_0 : decode cX3_hasHours 0 = .ok (.aload_n 1, 1) := by decide +kernel
theorem dX3_hasHours_1 : decode cX3_hasHours 1 = .ok (.iload_n 2, 1) := by decide +kernel
theorem dX3_hasHours_2 : decode cX3_hasHours 2 = .ok (.invokevirtual 35, 3) := by decide +kernel
theorem dX3_hasHours_5 : decode cX3_hasHours 5 = .ok (.aload_n 0, 1) := by decide +kernel
theorem dX3_hasHours_6 : decode cX3_hasHours 6 = .ok (.getfield 38, 3) := by decide +kernel
theorem dX3_hasHours_9 : decode cX3_hasHours 9 = .ok (.if_icmp .gt 7, 3) := by decide +kernel
theorem dX3_hasHours_12 : decode cX3_hasHours 12 = .ok (.iconst 1, 1) := by decide +kernel
theorem dX3_hasHours_13 : decode cX3_hasHours 13 = .ok (.goto 4, 3) := by decide +kernel
theorem dX3_hasHours_16 : decode cX3_hasHours 16 = .ok (.iconst 0, 1) := by decide +kernel
theorem dX3_hasHours_17 : decode cX3_hasHours 17 = .ok (.ireturn, 1) := by decide +kernel
theorem dX3_isMet_0 : decode cX3_isMet 0 = .ok (.aload_n 0, 1) := by decide +kernel
theorem dX3_isMet_1 : decode cX3_isMet 1 = .ok (.getfield 15, 3) := by decide +kernel
theorem dX3_isMet_4 : decode cX3_isMet 4 = .ok (.iload_n 2, 1) := by decide +kernel
theorem dX3_isMet_5 : decode cX3_isMet 5 = .ok (.iaload, 1) := by decide +kernel
theorem dX3_isMet_6 : decode cX3_isMet 6 = .ok (.istore 4, 2) := by decide +kernel
theorem dX3_isMet_8 : decode cX3_isMet 8 = .ok (.aload_n 0, 1) := by decide +kernel
theorem dX3_isMet_9 : decode cX3_isMet 9 = .ok (.getfield 9, 3) := by decide +kernel
theorem dX3_isMet_12 : decode cX3_isMet 12 = .ok (.iload_n 2, 1) := by decide +kernel
theorem dX3_isMet_13 : decode cX3_isMet 13 = .ok (.iaload, 1) := by decide +kernel
theorem dX3_isMet_14 : decode cX3_isMet 14 = .ok (.tableswitch 106 0 4 #[34, 41, 56, 75, 90], 34) := by decide +kernel
theorem dX3_isMet_48 : decode cX3_isMet 48 = .ok (.iload 4, 2) := by decide +kernel
theorem dX3_isMet_50 : decode cX3_isMet 50 = .ok (.iload_n 3, 1) := by decide +kernel
theorem dX3_isMet_51 : decode cX3_isMet 51 = .ok (.invokestatic 41, 3) := by decide +kernel
theorem dX3_isMet_54 : decode cX3_isMet 54 = .ok (.ireturn, 1) := by decide +kernel
theorem dX3_isMet_55 : decode cX3_isMet 55 = .ok (.iload 4, 2) := by decide +kernel
theorem dX3_isMet_57 : decode cX3_isMet 57 = .ok (.iload_n 3, 1) := by decide +kernel
theorem dX3_isMet_58 : decode cX3_isMet 58 = .ok (.invokestatic 41, 3) := by decide +kernel
theorem dX3_isMet_61 : decode cX3_isMet 61 = .ok (.ifCond .ne 7, 3) := by decide +kernel
theorem dX3_isMet_64 : decode cX3_isMet 64 = .ok (.iconst 1, 1) := by decide +kernel
theorem dX3_isMet_65 : decode cX3_isMet 65 = .ok (.goto 4, 3) := by decide +kernel
theorem dX3_isMet_68 : decode cX3_isMet 68 = .ok (.iconst 0, 1) := by decide +kernel
theorem dX3_isMet_69 : decode cX3_isMet 69 = .ok (.ireturn, 1) := by decide +kernel
theorem dX3_isMet_70 : decode cX3_isMet 70 = .ok (.iload 4, 2) := by decide +kernel
theorem dX3_isMet_72 : decode cX3_isMet 72 = .ok (.aload_n 1, 1) := by decide +kernel
theorem dX3_isMet_73 : decode cX3_isMet 73 = .ok (.iload_n 3, 1) := by decide +kernel
theorem dX3_isMet_74 : decode cX3_isMet 74 = .ok (.invokevirtual 45, 3) := by decide +kernel
theorem dX3_isMet_77 : decode cX3_isMet 77 = .ok (.invokestatic 41, 3) := by decide +kernel
theorem dX3_isMet_80 : decode cX3_isMet 80 = .ok (.ifCond .ne 7, 3) := by decide +kernel
theorem dX3_isMet_83 : decode cX3_isMet 83 = .ok (.iconst 1, 1) := by decide +kernel
theorem dX3_isMet_84 : decode cX3_isMet 84 = .ok (.goto 4, 3) := by decide +kernel
theorem dX3_isMet_87 : decode cX3_isMet 87 = .ok (.iconst 0, 1) := by decide +kernel
theorem dX3_isMet_88 : decode cX3_isMet 88 = .ok (.ireturn, 1) := by decide +kernel
theorem dX3_isMet_89 : decode cX3_isMet 89 = .ok (.iload_n 3, 1) := by decide +kernel
theorem dX3_isMet_90 : decode cX3_isMet 90 = .ok (.aload_n 1, 1) := by decide +kernel
theorem dX3_isMet_91 : decode cX3_isMet 91 = .ok (.getfield 48, 3) := by decide +kernel
theorem dX3_isMet_94 : decode cX3_isMet 94 = .ok (.iand, 1) := by decide +kernel
theorem dX3_isMet_95 : decode cX3_isMet 95 = .ok (.ifCond .ne 7, 3) := by decide +kernel
theorem dX3_isMet_98 : decode cX3_isMet 98 = .ok (.iconst 1, 1) := by decide +kernel
theorem dX3_isMet_99 : decode cX3_isMet 99 = .ok (.goto 4, 3) := by decide +kernel
theorem dX3_isMet_102 : decode cX3_isMet 102 = .ok (.iconst 0, 1) := by decide +kernel
theorem dX3_isMet_103 : decode cX3_isMet 103 = .ok (.ireturn, 1) := by decide +kernel
theorem dX3_isMet_104 : decode cX3_isMet 104 = .ok (.aload_n 1, 1) := by decide +kernel
theorem dX3_isMet_105 : decode cX3_isMet 105 = .ok (.iload_n 3, 1) := by decide +kernel
theorem dX3_isMet_106 : decode cX3_isMet 106 = .ok (.invokevirtual 35, 3) := by decide +kernel
theorem dX3_isMet_109 : decode cX3_isMet 109 = .ok (.iload 4, 2) := by decide +kernel
theorem dX3_isMet_111 : decode cX3_isMet 111 = .ok (.if_icmp .gt 7, 3) := by decide +kernel
theorem dX3_isMet_114 : decode cX3_isMet 114 = .ok (.iconst 1, 1) := by decide +kernel
theorem dX3_isMet_115 : decode cX3_isMet 115 = .ok (.goto 4, 3) := by decide +kernel
theorem dX3_isMet_118 : decode cX3_isMet 118 = .ok (.iconst 0, 1) := by decide +kernel
theorem dX3_isMet_119 : decode cX3_isMet 119 = .ok (.ireturn, 1) := by decide +kernel
theorem dX3_isMet_120 : decode cX3_isMet 120 = .ok (.aload_n 1, 1) := by decide +kernel
theorem dX3_isMet_121 : decode cX3_isMet 121 = .ok (.iload_n 3, 1) := by decide +kernel
theorem dX3_isMet_122 : decode cX3_isMet 122 = .ok (.invokevirtual 35, 3) := by decide +kernel
theorem dX3_isMet_125 : decode cX3_isMet 125 = .ok (.iload 4, 2) := by decide +kernel
theorem dX3_isMet_127 : decode cX3_isMet 127 = .ok (.if_icmp .lt 7, 3) := by decide +kernel
theorem dX3_isMet_130 : decode cX3_isMet 130 = .ok (.iconst 1, 1) := by decide +kernel
theorem dX3_isMet_131 : decode cX3_isMet 131 = .ok (.goto 4, 3) := by decide +kernel
theorem dX3_isMet_134 : decode cX3_isMet 134 = .ok (.iconst 0, 1) := by decide +kernel
theorem dX3_isMet_135 : decode cX3_isMet 135 = .ok (.ireturn, 1) := by decide +kernel
theorem dX3_score_0 : decode cX3_score 0 = .ok (.iconst 0, 1) := by decide +kernel
theorem dX3_score_1 : decode cX3_score 1 = .ok (.istore_n 3, 1) := by decide +kernel
theorem dX3_score_2 : decode cX3_score 2 = .ok (.iconst 0, 1) := by decide +kernel
theorem dX3_score_3 : decode cX3_score 3 = .ok (.istore 4, 2) := by decide +kernel
theorem dX3_score_5 : decode cX3_score 5 = .ok (.iload 4, 2) := by decide +kernel
theorem dX3_score_7 : decode cX3_score 7 = .ok (.aload_n 0, 1) := by decide +kernel
theorem dX3_score_8 : decode cX3_score 8 = .ok (.getfield 18, 3) := by decide +kernel
theorem dX3_score_11 : decode cX3_score 11 = .ok (.if_icmp .ge 30, 3) := by decide +kernel
theorem dX3_score_14 : decode cX3_score 14 = .ok (.iload_n 3, 1) := by decide +kernel
theorem dX3_score_15 : decode cX3_score 15 = .ok (.iconst 1, 1) := by decide +kernel
theorem dX3_score_16 : decode cX3_score 16 = .ok (.ishl, 1) := by decide +kernel
theorem dX3_score_17 : decode cX3_score 17 = .ok (.aload_n 0, 1) := by decide +kernel
theorem dX3_score_18 : decode cX3_score 18 = .ok (.aload_n 1, 1) := by decide +kernel
theorem dX3_score_19 : decode cX3_score 19 = .ok (.iload 4, 2) := by decide +kernel
theorem dX3_score_21 : decode cX3_score 21 = .ok (.iload_n 2, 1) := by decide +kernel
theorem dX3_score_22 : decode cX3_score 22 = .ok (.invokevirtual 51, 3) := by decide +kernel
theorem dX3_score_25 : decode cX3_score 25 = .ok (.ifCond .eq 7, 3) := by decide +kernel
theorem dX3_score_28 : decode cX3_score 28 = .ok (.iconst 1, 1) := by decide +kernel
theorem dX3_score_29 : decode cX3_score 29 = .ok (.goto 4, 3) := by decide +kernel
theorem dX3_score_32 : decode cX3_score 32 = .ok (.iconst 0, 1) := by decide +kernel
theorem dX3_score_33 : decode cX3_score 33 = .ok (.ior, 1) := by decide +kernel
theorem dX3_score_34 : decode cX3_score 34 = .ok (.istore_n 3, 1) := by decide +kernel
theorem dX3_score_35 : decode cX3_score 35 = .ok (.iinc 4 1, 3) := by decide +kernel
theorem dX3_score_38 : decode cX3_score 38 = .ok (.goto (-33), 3) := by decide +kernel
theorem dX3_score_41 : decode cX3_score 41 = .ok (.iload_n 3, 1) := by decide +kernel
theorem dX3_score_42 : decode cX3_score 42 = .ok (.ireturn, 1) := by decide +kernel
theorem dX3_wishesMet_0 : decode cX3_wishesMet 0 = .ok (.aload_n 0, 1) := by decide +kernel
theorem dX3_wishesMet_1 : decode cX3_wishesMet 1 = .ok (.aload_n 1, 1) := by decide +kernel
theorem dX3_wishesMet_2 : decode cX3_wishesMet 2 = .ok (.aload_n 0, 1) := by decide +kernel
theorem dX3_wishesMet_3 : decode cX3_wishesMet 3 = .ok (.getfield 55, 3) := by decide +kernel
