theorem dX6_size_3 : decode cX6_size 3 = .ok (.istore_n 2, 1) := by decide +kernel
theorem dX6_size_4 : decode cX6_size 4 = .ok (.iload_n 2, 1) := by decide +kernel
theorem dX6_size_5 : decode cX6_size 5 = .ok (.bipush 9, 2) := by decide +kernel
theorem dX6_size_7 : decode cX6_size 7 = .ok (.if_icmp .ge 20, 3) := by decide +kernel
theorem dX6_size_10 : decode cX6_size 10 = .ok (.iload_n 0, 1) := by decide +kernel
theorem dX6_size_11 : decode cX6_size 11 = .ok (.iload_n 2, 1) := by decide +kernel
theorem dX6_size_12 : decode cX6_size 12 = .ok (.invokestatic 87, 3) := by decide +kernel
theorem dX6_size_15 : decode cX6_size 15 = .ok (.ifCond .eq 6, 3) := by decide +kernel
theorem dX6_size_18 : decode cX6_size 18 = .ok (.iinc 1 1, 3) := by decide +kernel
theorem dX6_size_21 : decode cX6_size 21 = .ok (.iinc 2 1, 3) := by decide +kernel
theorem dX6_size_24 : decode cX6_size 24 = .ok (.goto (-20), 3) := by decide +kernel
theorem dX6_size_27 : decode cX6_size 27 = .ok (.iload_n 1, 1) := by decide +kernel
theorem dX6_size_28 : decode cX6_size 28 = .ok (.ireturn, 1) := by decide +kernel
theorem dX6_changed_0 : decode cX6_changed 0 = .ok (.aload_n 0, 1) := by decide +kernel
theorem dX6_changed_1 : decode cX6_changed 1 = .ok (.iconst 0, 1) := by decide +kernel
theorem dX6_changed_2 : decode cX6_changed 2 = .ok (.putfield 91, 3) := by decide +kernel
theorem dX6_changed_5 : decode cX6_changed 5 = .ok (.aload_n 0, 1) := by decide +kernel
theorem dX6_changed_6 : decode cX6_changed 6 = .ok (.iconst 0, 1) := by decide +kernel
theorem dX6_changed_7 : decode cX6_changed 7 = .ok (.putfield 95, 3) := by decide +kernel
theorem dX6_changed_10 : decode cX6_changed 10 = .ok (.return_, 1) := by decide +kernel
theorem dX6_duty_0 : decode cX6_duty 0 = .ok (.iload_n 2, 1) := by decide +kernel
theorem dX6_duty_1 : decode cX6_duty 1 = .ok (.iconst 1, 1) := by decide +kernel
theorem dX6_duty_2 : decode cX6_duty 2 = .ok (.if_icmp .lt 30, 3) := by decide +kernel
theorem dX6_duty_5 : decode cX6_duty 5 = .ok (.iload_n 2, 1) := by decide +kernel
theorem dX6_duty_6 : decode cX6_duty 6 = .ok (.iconst 3, 1) := by decide +kernel
theorem dX6_duty_7 : decode cX6_duty 7 = .ok (.if_icmp .gt 25, 3) := by decide +kernel
theorem dX6_duty_10 : decode cX6_duty 10 = .ok (.iload_n 3, 1) := by decide +kernel
theorem dX6_duty_11 : decode cX6_duty 11 = .ok (.iconst 1, 1) := by decide +kernel
theorem dX6_duty_12 : decode cX6_duty 12 = .ok (.if_icmp .lt 20, 3) := by decide +kernel
theorem dX6_duty_15 : decode cX6_duty 15 = .ok (.iload_n 3, 1) := by decide +kernel
theorem dX6_duty_16 : decode cX6_duty 16 = .ok (.bipush 40, 2) := by decide +kernel
theorem dX6_duty_18 : decode cX6_duty 18 = .ok (.if_icmp .gt 14, 3) := by decide +kernel
theorem dX6_duty_21 : decode cX6_duty 21 = .ok (.iload 5, 2) := by decide +kernel
theorem dX6_duty_23 : decode cX6_duty 23 = .ok (.ifCond .lt 9, 3) := by decide +kernel
theorem dX6_duty_26 : decode cX6_duty 26 = .ok (.iload 5, 2) := by decide +kernel
theorem dX6_duty_28 : decode cX6_duty 28 = .ok (.iconst 1, 1) := by decide +kernel
theorem dX6_duty_29 : decode cX6_duty 29 = .ok (.if_icmp .le 6, 3) := by decide +kernel
theorem dX6_duty_32 : decode cX6_duty 32 = .ok (.bipush (-2), 2) := by decide +kernel
theorem dX6_duty_34 : decode cX6_duty 34 = .ok (.ireturn, 1) := by decide +kernel
theorem dX6_duty_35 : decode cX6_duty 35 = .ok (.iload_n 1, 1) := by decide +kernel
theorem dX6_duty_36 : decode cX6_duty 36 = .ok (.ifCond .lt 22, 3) := by decide +kernel
theorem dX6_duty_39 : decode cX6_duty 39 = .ok (.iload_n 1, 1) := by decide +kernel
theorem dX6_duty_40 : decode cX6_duty 40 = .ok (.bipush 14, 2) := by decide +kernel
theorem dX6_duty_42 : decode cX6_duty 42 = .ok (.iload_n 2, 1) := by decide +kernel
theorem dX6_duty_43 : decode cX6_duty 43 = .ok (.isub, 1) := by decide +kernel
theorem dX6_duty_44 : decode cX6_duty 44 = .ok (.if_icmp .gt 14, 3) := by decide +kernel
theorem dX6_duty_47 : decode cX6_duty 47 = .ok (.iload 4, 2) := by decide +kernel
theorem dX6_duty_49 : decode cX6_duty 49 = .ok (.ifCond .lt 9, 3) := by decide +kernel
theorem dX6_duty_52 : decode cX6_duty 52 = .ok (.iload 4, 2) := by decide +kernel
theorem dX6_duty_54 : decode cX6_duty 54 = .ok (.iconst 3, 1) := by decide +kernel
theorem dX6_duty_55 : decode cX6_duty 55 = .ok (.if_icmp .le 5, 3) := by decide +kernel
theorem dX6_duty_58 : decode cX6_duty 58 = .ok (.iconst (-1), 1) := by decide +kernel
theorem dX6_duty_59 : decode cX6_duty 59 = .ok (.ireturn, 1) := by decide +kernel
theorem dX6_duty_60 : decode cX6_duty 60 = .ok (.aload_n 0, 1) := by decide +kernel
theorem dX6_duty_61 : decode cX6_duty 61 = .ok (.getfield 84, 3) := by decide +kernel
theorem dX6_duty_64 : decode cX6_duty 64 = .ok (.bipush 9, 2) := by decide +kernel
theorem dX6_duty_66 : decode cX6_duty 66 = .ok (.if_icmp .ne 6, 3) := by decide +kernel
theorem dX6_duty_69 : decode cX6_duty 69 = .ok (.bipush (-4), 2) := by decide +kernel
theorem dX6_duty_71 : decode cX6_duty 71 = .ok (.ireturn, 1) := by decide +kernel
theorem dX6_duty_72 : decode cX6_duty 72 = .ok (.aload_n 0, 1) := by decide +kernel
theorem dX6_duty_73 : decode cX6_duty 73 = .ok (.getfield 9, 3) := by decide +kernel
theorem dX6_duty_76 : decode cX6_duty 76 = .ok (.aload_n 0, 1) := by decide +kernel
theorem dX6_duty_77 : decode cX6_duty 77 = .ok (.getfield 84, 3) := by decide +kernel
theorem dX6_duty_80 : decode cX6_duty 80 = .ok (.iload_n 1, 1) := by decide +kernel
theorem dX6_duty_81 : decode cX6_duty 81 = .ok (.iastore, 1) := by decide +kernel
theorem dX6_duty_82 : decode cX6_duty 82 = .ok (.aload_n 0, 1) := by decide +kernel
theorem dX6_duty_83 : decode cX6_duty 83 = .ok (.getfield 13, 3) := by decide +kernel
theorem dX6_duty_86 : decode cX6_duty 86 = .ok (.aload_n 0, 1) := by decide +kernel
theorem dX6_duty_87 : decode cX6_duty 87 = .ok (.getfield 84, 3) := by decide +kernel
theorem dX6_duty_90 : decode cX6_duty 90 = .ok (.iload_n 2, 1) := by decide +kernel
theorem dX6_duty_91 : decode cX6_duty 91 = .ok (.iastore, 1) := by decide +kernel
theorem dX6_duty_92 : decode cX6_duty 92 = .ok (.aload_n 0, 1) := by decide +kernel
theorem dX6_duty_93 : decode cX6_duty 93 = .ok (.getfield 16, 3) := by decide +kernel
theorem dX6_duty_96 : decode cX6_duty 96 = .ok (.aload_n 0, 1) := by decide +kernel
theorem dX6_duty_97 : decode cX6_duty 97 = .ok (.getfield 84, 3) := by decide +kernel
theorem dX6_duty_100 : decode cX6_duty 100 = .ok (.iload_n 3, 1) := by decide +kernel
theorem dX6_duty_101 : decode cX6_duty 101 = .ok (.iastore, 1) := by decide +kernel
theorem dX6_duty_102 : decode cX6_duty 102 = .ok (.aload_n 0, 1) := by decide +kernel
theorem dX6_duty_103 : decode cX6_duty 103 = .ok (.getfield 19, 3) := by decide +kernel
theorem dX6_duty_106 : decode cX6_duty 106 = .ok (.aload_n 0, 1) := by decide +kernel
theorem dX6_duty_107 : decode cX6_duty 107 = .ok (.getfield 84, 3) := by decide +kernel
theorem dX6_duty_110 : decode cX6_duty 110 = .ok (.iload 4, 2) := by decide +kernel
theorem dX6_duty_112 : decode cX6_duty 112 = .ok (.iastore, 1) := by decide +kernel
theorem dX6_duty_113 : decode cX6_duty 113 = .ok (.aload_n 0, 1) := by decide +kernel
theorem dX6_duty_114 : decode cX6_duty 114 = .ok (.getfield 22, 3) := by decide +kernel
theorem dX6_duty_117 : decode cX6_duty 117 = .ok (.aload_n 0, 1) := by decide +kernel
theorem dX6_duty_118 : decode cX6_duty 118 = .ok (.getfield 84, 3) := by decide +kernel
theorem dX6_duty_121 : decode cX6_duty 121 = .ok (.iload 5, 2) := by decide +kernel
theorem dX6_duty_123 : decode cX6_duty 123 = .ok (.iastore, 1) := by decide +kernel
theorem dX6_duty_124 : decode cX6_duty 124 = .ok (.aload_n 0, 1) := by decide +kernel
theorem dX6_duty_125 : decode cX6_duty 125 = .ok (.invokevirtual 98, 3) := by decide +kernel
theorem dX6_duty_128 : decode cX6_duty 128 = .ok (.aload_n 0, 1) := by decide +kernel
theorem dX6_duty_129 : decode cX6_duty 129 = .ok (.dup, 1) := by decide +kernel
theorem dX6_duty_130 : decode cX6_duty 130 = .ok (.getfield 84, 3) := by decide +kernel
theorem dX6_duty_133 : decode cX6_duty 133 = .ok (.dup_x1, 1) := by decide +kernel
theorem dX6_duty_134 : decode cX6_duty 134 = .ok (.iconst 1, 1) := by decide +kernel
theorem dX6_duty_135 : decode cX6_duty 135 = .ok (.iadd, 1) := by decide +kernel
theorem dX6_duty_136 : decode cX6_duty 136 = .ok (.putfield 84, 3) := by decide +kernel
theorem dX6_duty_139 : decode cX6_duty 139 = .ok (.ireturn, 1) := by decide +kernel
theorem dX6_person_0 : decode cX6_person 0 = .ok (.iload_n 1, 1) := by decide +kernel
theorem dX6_person_1 : decode cX6_person 1 = .ok (.ifCond .lt 20, 3) := by decide +kernel
theorem dX6_person_4 : decode cX6_person 4 = .ok (.iload_n 1, 1) := by decide +kernel
theorem dX6_person_5 : decode cX6_person 5 = .ok (.bipush 15, 2) := by decide +kernel
theorem dX6_person_7 : decode cX6_person 7 = .ok (.if_icmp .gt 14, 3) := by decide +kernel
theorem dX6_person_10 : decode cX6_person 10 = .ok (.iload_n 2, 1) := by decide +kernel
theorem dX6_person_11 : decode cX6_person 11 = .ok (.ifCond .lt 10, 3) := by decide +kernel
theorem dX6_person_14 : decode cX6_person 14 = .ok (.iload_n 2, 1) := by decide +kernel
theorem dX6_person_15 : decode cX6_person 15 = .ok (.sipush 200, 3) := by decide +kernel
theorem dX6_person_18 : decode cX6_person 18 = .ok (.if_icmp .le 6, 3) := by decide +kernel
theorem dX6_person_21 : decode cX6_person 21 = .ok (.bipush (-2), 2) := by decide +kernel
theorem dX6_person_23 : decode cX6_person 23 = .ok (.ireturn, 1) := by decide +kernel
theorem dX6_person_24 : decode cX6_person 24 = .ok (.aload_n 0, 1) := by decide +kernel
theorem dX6_person_25 : decode cX6_person 25 = .ok (.getfield 81, 3) := by decide +kernel
theorem dX6_person_28 : decode cX6_person 28 = .ok (.iconst 4, 1) := by decide +kernel
theorem dX6_person_29 : decode cX6_person 29 = .ok (.if_icmp .ne 6, 3) := by decide +kernel
theorem dX6_person_32 : decode cX6_person 32 = .ok (.bipush (-4), 2) := by decide +kernel
theorem dX6_person_34 : decode cX6_person 34 = .ok (.ireturn, 1) := by decide +kernel
theorem dX6_person_35 : decode cX6_person 35 = .ok (.aload_n 0, 1) := by decide +kernel
theorem dX6_person_36 : decode cX6_person 36 = .ok (.getfield 25, 3) := by decide +kernel
theorem dX6_person_39 : decode cX6_person 39 = .ok (.aload_n 0, 1) := by decide +kernel
theorem dX6_person_40 : decode cX6_person 40 = .ok (.getfield 81, 3) := by decide +kernel
theorem dX6_person_43 : decode cX6_person 43 = .ok (.iload_n 1, 1) := by decide +kernel
theorem dX6_person_44 : decode cX6_person 44 = .ok (.iastore, 1) := by decide +kernel
theorem dX6_person_45 : decode cX6_person 45 = .ok (.aload_n 0, 1) := by decide +kernel
theorem dX6_person_46 : decode cX6_person 46 = .ok (.getfield 28, 3) := by decide +kernel
theorem dX6_person_49 : decode cX6_person 49 = .ok (.aload_n 0, 1) := by decide +kernel
theorem dX6_person_50 : decode cX6_person 50 = .ok (.getfield 81, 3) := by decide +kernel
theorem dX6_person_53 : decode cX6_person 53 = .ok (.iload_n 2, 1) := by decide +kernel
theorem dX6_person_54 : decode cX6_person 54 = .ok (.iastore, 1) := by decide +kernel
theorem dX6_person_55 : decode cX6_person 55 = .ok (.aload_n 0, 1) := by decide +kernel
theorem dX6_person_56 : decode cX6_person 56 = .ok (.getfield 31, 3) := by decide +kernel
theorem dX6_person_59 : decode cX6_person 59 = .ok (.aload_n 0, 1) := by decide +kernel
theorem dX6_person_60 : decode cX6_person 60 = .ok (.getfield 81, 3) := by decide +kernel
theorem dX6_person_63 : decode cX6_person 63 = .ok (.iconst 0, 1) := by decide +kernel
theorem dX6_person_64 : decode cX6_person 64 = .ok (.iastore, 1) := by decide +kernel
theorem dX6_person_65 : decode cX6_person 65 = .ok (.aload_n 0, 1) := by decide +kernel
theorem dX6_person_66 : decode cX6_person 66 = .ok (.invokevirtual 98, 3) := by decide +kernel
theorem dX6_person_69 : decode cX6_person 69 = .ok (.aload_n 0, 1) := by decide +kernel
theorem dX6_person_70 : decode cX6_person 70 = .ok (.dup, 1) := by decide +kernel
theorem dX6_person_71 : decode cX6_person 71 = .ok (.getfield 81, 3) := by decide +kernel
theorem dX6_person_74 : decode cX6_person 74 = .ok (.dup_x1, 1) := by decide +kernel
theorem dX6_person_75 : decode cX6_person 75 = .ok (.iconst 1, 1) := by decide +kernel
theorem dX6_person_76 : decode cX6_person 76 = .ok (.iadd, 1) := by decide +kernel
theorem dX6_person_77 : decode cX6_person 77 = .ok (.putfield 81, 3) := by decide +kernel
theorem dX6_person_80 : decode cX6_person 80 = .ok (.ireturn, 1) := by decide +kernel
theorem dX6_rule_0 : decode cX6_rule 0 = .ok (.iload_n 1, 1) := by decide +kernel
theorem dX6_rule_1 : decode cX6_rule 1 = .ok (.ifCond .lt 8, 3) := by decide +kernel
theorem dX6_rule_4 : decode cX6_rule 4 = .ok (.iload_n 1, 1) := by decide +kernel
theorem dX6_rule_5 : decode cX6_rule 5 = .ok (.iconst 3, 1) := by decide +kernel
theorem dX6_rule_6 : decode cX6_rule 6 = .ok (.if_icmp .le 5, 3) := by decide +kernel
theorem dX6_rule_9 : decode cX6_rule 9 = .ok (.iconst (-1), 1) := by decide +kernel
theorem dX6_rule_10 : decode cX6_rule 10 = .ok (.ireturn, 1) := by decide +kernel
theorem dX6_rule_11 : decode cX6_rule 11 = .ok (.iload_n 2, 1) := by decide +kernel
theorem dX6_rule_12 : decode cX6_rule 12 = .ok (.iload_n 1, 1) := by decide +kernel
theorem dX6_rule_13 : decode cX6_rule 13 = .ok (.iconst 2, 1) := by decide +kernel
theorem dX6_rule_14 : decode cX6_rule 14 = .ok (.if_icmp .ne 7, 3) := by decide +kernel
theorem dX6_rule_17 : decode cX6_rule 17 = .ok (.iconst 1, 1) := by decide +kernel
theorem dX6_rule_18 : decode cX6_rule 18 = .ok (.goto 4, 3) := by decide +kernel
theorem dX6_rule_21 : decode cX6_rule 21 = .ok (.iconst 0, 1) := by decide +kernel
theorem dX6_rule_22 : decode cX6_rule 22 = .ok (.if_icmp .lt 29, 3) := by decide +kernel
theorem dX6_rule_25 : decode cX6_rule 25 = .ok (.iload_n 2, 1) := by decide +kernel
theorem dX6_rule_26 : decode cX6_rule 26 = .ok (.iload_n 1, 1) := by decide +kernel
theorem dX6_rule_27 : decode cX6_rule 27 = .ok (.iconst 2, 1) := by decide +kernel
theorem dX6_rule_28 : decode cX6_rule 28 = .ok (.if_icmp .ge 7, 3) := by decide +kernel
theorem dX6_rule_31 : decode cX6_rule 31 = .ok (.iconst 3, 1) := by decide +kernel
theorem dX6_rule_32 : decode cX6_rule 32 = .ok (.goto 16, 3) := by decide +kernel
theorem dX6_rule_35 : decode cX6_rule 35 = .ok (.iload_n 1, 1) := by decide +kernel
theorem dX6_rule_36 : decode cX6_rule 36 = .ok (.iconst 2, 1) := by decide +kernel
theorem dX6_rule_37 : decode cX6_rule 37 = .ok (.if_icmp .ne 8, 3) := by decide +kernel
theorem dX6_rule_40 : decode cX6_rule 40 = .ok (.bipush 14, 2) := by decide +kernel
theorem dX6_rule_42 : decode cX6_rule 42 = .ok (.goto 6, 3) := by decide +kernel
theorem dX6_rule_45 : decode cX6_rule 45 = .ok (.sipush 200, 3) := by decide +kernel
theorem dX6_rule_48 : decode cX6_rule 48 = .ok (.if_icmp .le 6, 3) := by decide +kernel
theorem dX6_rule_51 : decode cX6_rule 51 = .ok (.bipush (-2), 2) := by decide +kernel
theorem dX6_rule_53 : decode cX6_rule 53 = .ok (.ireturn, 1) := by decide +kernel
theorem dX6_rule_54 : decode cX6_rule 54 = .ok (.iload_n 1, 1) := by decide +kernel
theorem dX6_rule_55 : decode cX6_rule 55 = .ok (.ifCond .ne 10, 3) := by decide +kernel
theorem dX6_rule_58 : decode cX6_rule 58 = .ok (.aload_n 0, 1) := by decide +kernel
theorem dX6_rule_59 : decode cX6_rule 59 = .ok (.getfield 40, 3) := by decide +kernel
theorem dX6_rule_62 : decode cX6_rule 62 = .ok (.goto 31, 3) := by decide +kernel
theorem dX6_rule_65 : decode cX6_rule 65 = .ok (.iload_n 1, 1) := by decide +kernel
theorem dX6_rule_66 : decode cX6_rule 66 = .ok (.iconst 1, 1) := by decide +kernel
theorem dX6_rule_67 : decode cX6_rule 67 = .ok (.if_icmp .ne 10, 3) := by decide +kernel
theorem dX6_rule_70 : decode cX6_rule 70 = .ok (.aload_n 0, 1) := by decide +kernel
theorem dX6_rule_71 : decode cX6_rule 71 = .ok (.getfield 44, 3) := by decide +kernel
theorem dX6_rule_74 : decode cX6_rule 74 = .ok (.goto 19, 3) := by decide +kernel
theorem dX6_rule_77 : decode cX6_rule 77 = .ok (.iload_n 1, 1) := by decide +kernel
theorem dX6_rule_78 : decode cX6_rule 78 = .ok (.iconst 2, 1) := by decide +kernel
theorem dX6_rule_79 : decode cX6_rule 79 = .ok (.if_icmp .ne 10, 3) := by decide +kernel
theorem dX6_rule_82 : decode cX6_rule 82 = .ok (.aload_n 0, 1) := by decide +kernel
theorem dX6_rule_83 : decode cX6_rule 83 = .ok (.getfield 47, 3) := by decide +kernel
theorem dX6_rule_86 : decode cX6_rule 86 = .ok (.goto 7, 3) := by decide +kernel
theorem dX6_rule_89 : decode cX6_rule 89 = .ok (.aload_n 0, 1) := by decide +kernel
theorem dX6_rule_90 : decode cX6_rule 90 = .ok (.getfield 50, 3) := by decide +kernel
theorem dX6_rule_93 : decode cX6_rule 93 = .ok (.istore_n 3, 1) := by decide +kernel
theorem dX6_rule_94 : decode cX6_rule 94 = .ok (.iload_n 1, 1) := by decide +kernel
theorem dX6_rule_95 : decode cX6_rule 95 = .ok (.ifCond .ne 11, 3) := by decide +kernel
theorem dX6_rule_98 : decode cX6_rule 98 = .ok (.aload_n 0, 1) := by decide +kernel
theorem dX6_rule_99 : decode cX6_rule 99 = .ok (.iload_n 2, 1) := by decide +kernel
theorem dX6_rule_100 : decode cX6_rule 100 = .ok (.putfield 40, 3) := by decide +kernel
theorem dX6_rule_103 : decode cX6_rule 103 = .ok (.goto 34, 3) := by decide +kernel
theorem dX6_rule_106 : decode cX6_rule 106 = .ok (.iload_n 1, 1) := by decide +kernel
theorem dX6_rule_107 : decode cX6_rule 107 = .ok (.iconst 1, 1) := by decide +kernel
theorem dX6_rule_108 : decode cX6_rule 108 = .ok (.if_icmp .ne 11, 3) := by decide +kernel
theorem dX6_rule_111 : decode cX6_rule 111 = .ok (.aload_n 0, 1) := by decide +kernel
theorem dX6_rule_112 : decode cX6_rule 112 = .ok (.iload_n 2, 1) := by decide +kernel
theorem dX6_rule_113 : decode cX6_rule 113 = .ok (.putfield 44, 3) := by decide +kernel
theorem dX6_rule_116 : decode cX6_rule 116 = .ok (.goto 21, 3) := by decide +kernel
theorem dX6_rule_119 : decode cX6_rule 119 = .ok (.iload_n 1, 1) := by decide +kernel
theorem dX6_rule_120 : decode cX6_rule 120 = .ok (.iconst 2, 1) := by decide +kernel
theorem dX6_rule_121 : decode cX6_rule 121 = .ok (.if_icmp .ne 11, 3) := by decide +kernel
theorem dX6_rule_124 : decode cX6_rule 124 = .ok (.aload_n 0, 1) := by decide +kernel
theorem dX6_rule_125 : decode cX6_rule 125 = .ok (.iload_n 2, 1) := by decide +kernel
theorem dX6_rule_126 : decode cX6_rule 126 = .ok (.putfield 47, 3) := by decide +kernel
theorem dX6_rule_129 : decode cX6_rule 129 = .ok (.goto 8, 3) := by decide +kernel
theorem dX6_rule_132 : decode cX6_rule 132 = .ok (.aload_n 0, 1) := by decide +kernel
theorem dX6_rule_133 : decode cX6_rule 133 = .ok (.iload_n 2, 1) := by decide +kernel
theorem dX6_rule_134 : decode cX6_rule 134 = .ok (.putfield 50, 3) := by decide +kernel
theorem dX6_rule_137 : decode cX6_rule 137 = .ok (.aload_n 0, 1) := by decide +kernel
theorem dX6_rule_138 : decode cX6_rule 138 = .ok (.invokevirtual 98, 3) := by decide +kernel
theorem dX6_rule_141 : decode cX6_rule 141 = .ok (.iload_n 3, 1) := by decide +kernel
theorem dX6_rule_142 : decode cX6_rule 142 = .ok (.ireturn, 1) := by decide +kernel
theorem dX6_wish_0 : decode cX6_wish 0 = .ok (.aload_n 0, 1) := by decide +kernel
theorem dX6_wish_1 : decode cX6_wish 1 = .ok (.iload_n 1, 1) := by decide +kernel
theorem dX6_wish_2 : decode cX6_wish 2 = .ok (.invokevirtual 101, 3) := by decide +kernel
theorem dX6_wish_5 : decode cX6_wish 5 = .ok (.ifCond .eq 12, 3) := by decide +kernel
theorem dX6_wish_8 : decode cX6_wish 8 = .ok (.iload_n 2, 1) := by decide +kernel
theorem dX6_wish_9 : decode cX6_wish 9 = .ok (.ifCond .lt 8, 3) := by decide +kernel
theorem dX6_wish_12 : decode cX6_wish 12 = .ok (.iload_n 2, 1) := by decide +kernel
theorem dX6_wish_13 : decode cX6_wish 13 = .ok (.iconst 5, 1) := by decide +kernel
theorem dX6_wish_14 : decode cX6_wish 14 = .ok (.if_icmp .le 5, 3) := by decide +kernel
theorem dX6_wish_17 : decode cX6_wish 17 = .ok (.iconst (-1), 1) := by decide +kernel
theorem dX6_wish_18 : decode cX6_wish 18 = .ok (.ireturn, 1) := by decide +kernel
theorem dX6_wish_19 : decode cX6_wish 19 = .ok (.iload_n 2, 1) := by decide +kernel
theorem dX6_wish_20 : decode cX6_wish 20 = .ok (.iconst 2, 1) := by decide +kernel
theorem dX6_wish_21 : decode cX6_wish 21 = .ok (.if_icmp .ge 11, 3) := by decide +kernel
theorem dX6_wish_24 : decode cX6_wish 24 = .ok (.aload_n 0, 1) := by decide +kernel
theorem dX6_wish_25 : decode cX6_wish 25 = .ok (.iload_n 3, 1) := by decide +kernel
theorem dX6_wish_26 : decode cX6_wish 26 = .ok (.invokevirtual 105, 3) := by decide +kernel
theorem dX6_wish_29 : decode cX6_wish 29 = .ok (.ifCond .eq 18, 3) := by decide +kernel
theorem dX6_wish_32 : decode cX6_wish 32 = .ok (.iload_n 2, 1) := by decide +kernel
theorem dX6_wish_33 : decode cX6_wish 33 = .ok (.iconst 2, 1) := by decide +kernel
theorem dX6_wish_34 : decode cX6_wish 34 = .ok (.if_icmp .ne 15, 3) := by decide +kernel
theorem dX6_wish_37 : decode cX6_wish 37 = .ok (.iload_n 3, 1) := by decide +kernel
theorem dX6_wish_38 : decode cX6_wish 38 = .ok (.ifCond .lt 9, 3) := by decide +kernel
theorem dX6_wish_41 : decode cX6_wish 41 = .ok (.iload_n 3, 1) := by decide +kernel
theorem dX6_wish_42 : decode cX6_wish 42 = .ok (.bipush 13, 2) := by decide +kernel
theorem dX6_wish_44 : decode cX6_wish 44 = .ok (.if_icmp .le 5, 3) := by decide +kernel
theorem dX6_wish_47 : decode cX6_wish 47 = .ok (.iconst (-1), 1) := by decide +kernel
theorem dX6_wish_48 : decode cX6_wish 48 = .ok (.ireturn, 1) := by decide +kernel
theorem dX6_wish_49 : decode cX6_wish 49 = .ok (.iload_n 2, 1) := by decide +kernel
theorem dX6_wish_50 : decode cX6_wish 50 = .ok (.iconst 3, 1) := by decide +kernel
theorem dX6_wish_51 : decode cX6_wish 51 = .ok (.if_icmp .ne 7, 3) := by decide +kernel
theorem dX6_wish_54 : decode cX6_wish 54 = .ok (.iload_n 3, 1) := by decide +kernel
theorem dX6_wish_55 : decode cX6_wish 55 = .ok (.ifCond .ne 19, 3) := by decide +kernel
theorem dX6_wish_58 : decode cX6_wish 58 = .ok (.iload_n 2, 1) := by decide +kernel
theorem dX6_wish_59 : decode cX6_wish 59 = .ok (.iconst 3, 1) := by decide +kernel
theorem dX6_wish_60 : decode cX6_wish 60 = .ok (.if_icmp .le 17, 3) := by decide +kernel
theorem dX6_wish_63 : decode cX6_wish 63 = .ok (.iload_n 3, 1) := by decide +kernel
theorem dX6_wish_64 : decode cX6_wish 64 = .ok (.ifCond .lt 10, 3) := by decide +kernel
theorem dX6_wish_67 : decode cX6_wish 67 = .ok (.iload_n 3, 1) := by decide +kernel
theorem dX6_wish_68 : decode cX6_wish 68 = .ok (.sipush 200, 3) := by decide +kernel
theorem dX6_wish_71 : decode cX6_wish 71 = .ok (.if_icmp .le 6, 3) := by decide +kernel
theorem dX6_wish_74 : decode cX6_wish 74 = .ok (.bipush (-2), 2) := by decide +kernel
theorem dX6_wish_76 : decode cX6_wish 76 = .ok (.ireturn, 1) := by decide +kernel
theorem dX6_wish_77 : decode cX6_wish 77 = .ok (.aload_n 0, 1) := by decide +kernel
theorem dX6_wish_78 : decode cX6_wish 78 = .ok (.getfield 31, 3) := by decide +kernel
theorem dX6_wish_81 : decode cX6_wish 81 = .ok (.iload_n 1, 1) := by decide +kernel
theorem dX6_wish_82 : decode cX6_wish 82 = .ok (.iaload, 1) := by decide +kernel
theorem dX6_wish_83 : decode cX6_wish 83 = .ok (.iconst 5, 1) := by decide +kernel
theorem dX6_wish_84 : decode cX6_wish 84 = .ok (.if_icmp .ne 6, 3) := by decide +kernel
theorem dX6_wish_87 : decode cX6_wish 87 = .ok (.bipush (-4), 2) := by decide +kernel
theorem dX6_wish_89 : decode cX6_wish 89 = .ok (.ireturn, 1) := by decide +kernel
theorem dX6_wish_90 : decode cX6_wish 90 = .ok (.aload_n 0, 1) := by decide +kernel
theorem dX6_wish_91 : decode cX6_wish 91 = .ok (.getfield 34, 3) := by decide +kernel
theorem dX6_wish_94 : decode cX6_wish 94 = .ok (.iconst 5, 1) := by decide +kernel
theorem dX6_wish_95 : decode cX6_wish 95 = .ok (.iload_n 1, 1) := by decide +kernel
theorem dX6_wish_96 : decode cX6_wish 96 = .ok (.imul, 1) := by decide +kernel
theorem dX6_wish_97 : decode cX6_wish 97 = .ok (.aload_n 0, 1) := by decide +kernel
theorem dX6_wish_98 : decode cX6_wish 98 = .ok (.getfield 31, 3) := by decide +kernel
theorem dX6_wish_101 : decode cX6_wish 101 = .ok (.iload_n 1, 1) := by decide +kernel
theorem dX6_wish_102 : decode cX6_wish 102 = .ok (.iaload, 1) := by decide +kernel
theorem dX6_wish_103 : decode cX6_wish 103 = .ok (.iadd, 1) := by decide +kernel
theorem dX6_wish_104 : decode cX6_wish 104 = .ok (.iload_n 2, 1) := by decide +kernel
theorem dX6_wish_105 : decode cX6_wish 105 = .ok (.iastore, 1) := by decide +kernel
theorem dX6_wish_106 : decode cX6_wish 106 = .ok (.aload_n 0, 1) := by decide +kernel
theorem dX6_wish_107 : decode cX6_wish 107 = .ok (.getfield 37, 3) := by decide +kernel
theorem dX6_wish_110 : decode cX6_wish 110 = .ok (.iconst 5, 1) := by decide +kernel
theorem dX6_wish_111 : decode cX6_wish 111 = .ok (.iload_n 1, 1) := by decide +kernel
theorem dX6_wish_112 : decode cX6_wish 112 = .ok (.imul, 1) := by decide +kernel
theorem dX6_wish_113 : decode cX6_wish 113 = .ok (.aload_n 0, 1) := by decide +kernel
theorem dX6_wish_114 : decode cX6_wish 114 = .ok (.getfield 31, 3) := by decide +kernel
theorem dX6_wish_117 : decode cX6_wish 117 = .ok (.iload_n 1, 1) := by decide +kernel
theorem dX6_wish_118 : decode cX6_wish 118 = .ok (.iaload, 1) := by decide +kernel
theorem dX6_wish_119 : decode cX6_wish 119 = .ok (.iadd, 1) := by decide +kernel
theorem dX6_wish_120 : decode cX6_wish 120 = .ok (.iload_n 3, 1) := by decide +kernel
theorem dX6_wish_121 : decode cX6_wish 121 = .ok (.iastore, 1) := by decide +kernel
theorem dX6_wish_122 : decode cX6_wish 122 = .ok (.aload_n 0, 1) := by decide +kernel
theorem dX6_wish_123 : decode cX6_wish 123 = .ok (.invokevirtual 98, 3) := by decide +kernel
theorem dX6_wish_126 : decode cX6_wish 126 = .ok (.aload_n 0, 1) := by decide +kernel
theorem dX6_wish_127 : decode cX6_wish 127 = .ok (.getfield 31, 3) := by decide +kernel
theorem dX6_wish_130 : decode cX6_wish 130 = .ok (.iload_n 1, 1) := by decide +kernel
theorem dX6_wish_131 : decode cX6_wish 131 = .ok (.dup2, 1) := by decide +kernel
theorem dX6_wish_132 : decode cX6_wish 132 = .ok (.iaload, 1) := by decide +kernel
theorem dX6_wish_133 : decode cX6_wish 133 = .ok (.dup_x2, 1) := by decide +kernel
theorem dX6_wish_134 : decode cX6_wish 134 = .ok (.iconst 1, 1) := by decide +kernel
theorem dX6_wish_135 : decode cX6_wish 135 = .ok (.iadd, 1) := by decide +kernel
theorem dX6_wish_136 : decode cX6_wish 136 = .ok (.iastore, 1) := by decide +kernel
theorem dX6_wish_137 : decode cX6_wish 137 = .ok (.ireturn, 1) := by decide +kernel
theorem dX6_onDay_0 : decode cX6_onDay 0 = .ok (.iconst 0, 1) := by decide +kernel
theorem dX6_onDay_1 : decode cX6_onDay 1 = .ok (.istore_n 3, 1) := by decide +kernel
theorem dX6_onDay_2 : decode cX6_onDay 2 = .ok (.iconst 0, 1) := by decide +kernel
theorem dX6_onDay_3 : decode cX6_onDay 3 = .ok (.istore 4, 2) := by decide +kernel
theorem dX6_onDay_5 : decode cX6_onDay 5 = .ok (.iload 4, 2) := by decide +kernel
theorem dX6_onDay_7 : decode cX6_onDay 7 = .ok (.aload_n 0, 1) := by decide +kernel
theorem dX6_onDay_8 : decode cX6_onDay 8 = .ok (.getfield 84, 3) := by decide +kernel
theorem dX6_onDay_11 : decode cX6_onDay 11 = .ok (.if_icmp .ge 51, 3) := by decide +kernel
theorem dX6_onDay_14 : decode cX6_onDay 14 = .ok (.iload_n 1, 1) := by decide +kernel
theorem dX6_onDay_15 : decode cX6_onDay 15 = .ok (.iload 4, 2) := by decide +kernel
theorem dX6_onDay_17 : decode cX6_onDay 17 = .ok (.invokestatic 87, 3) := by decide +kernel
theorem dX6_onDay_20 : decode cX6_onDay 20 = .ok (.ifCond .eq 36, 3) := by decide +kernel
theorem dX6_onDay_23 : decode cX6_onDay 23 = .ok (.aload_n 0, 1) := by decide +kernel
theorem dX6_onDay_24 : decode cX6_onDay 24 = .ok (.getfield 9, 3) := by decide +kernel
theorem dX6_onDay_27 : decode cX6_onDay 27 = .ok (.iload 4, 2) := by decide +kernel
theorem dX6_onDay_29 : decode cX6_onDay 29 = .ok (.iaload, 1) := by decide +kernel
theorem dX6_onDay_30 : decode cX6_onDay 30 = .ok (.iload_n 2, 1) := by decide +kernel
theorem dX6_onDay_31 : decode cX6_onDay 31 = .ok (.if_icmp .gt 25, 3) := by decide +kernel
theorem dX6_onDay_34 : decode cX6_onDay 34 = .ok (.iload_n 2, 1) := by decide +kernel
theorem dX6_onDay_35 : decode cX6_onDay 35 = .ok (.aload_n 0, 1) := by decide +kernel
theorem dX6_onDay_36 : decode cX6_onDay 36 = .ok (.getfield 9, 3) := by decide +kernel
theorem dX6_onDay_39 : decode cX6_onDay 39 = .ok (.iload 4, 2) := by decide +kernel
theorem dX6_onDay_41 : decode cX6_onDay 41 = .ok (.iaload, 1) := by decide +kernel
theorem dX6_onDay_42 : decode cX6_onDay 42 = .ok (.aload_n 0, 1) := by decide +kernel
theorem dX6_onDay_43 : decode cX6_onDay 43 = .ok (.getfield 13, 3) := by decide +kernel
theorem dX6_onDay_46 : decode cX6_onDay 46 = .ok (.iload 4, 2) := by decide +kernel
theorem dX6_onDay_48 : decode cX6_onDay 48 = .ok (.iaload, 1) := by decide +kernel
theorem dX6_onDay_49 : decode cX6_onDay 49 = .ok (.iadd, 1) := by decide +kernel
theorem dX6_onDay_50 : decode cX6_onDay 50 = .ok (.if_icmp .ge 6, 3) := by decide +kernel
theorem dX6_onDay_53 : decode cX6_onDay 53 = .ok (.iinc 3 1, 3) := by decide +kernel
theorem dX6_onDay_56 : decode cX6_onDay 56 = .ok (.iinc 4 1, 3) := by decide +kernel
theorem dX6_onDay_59 : decode cX6_onDay 59 = .ok (.goto (-54), 3) := by decide +kernel
theorem dX6_onDay_62 : decode cX6_onDay 62 = .ok (.iload_n 3, 1) := by decide +kernel
theorem dX6_onDay_63 : decode cX6_onDay 63 = .ok (.ireturn, 1) := by decide +kernel
theorem dX6_hoursOf_0 : decode cX6_hoursOf 0 = .ok (.iconst 0, 1) := by decide +kernel
theorem dX6_hoursOf_1 : decode cX6_hoursOf 1 = .ok (.istore_n 2, 1) := by decide +kernel
theorem dX6_hoursOf_2 : decode cX6_hoursOf 2 = .ok (.iconst 0, 1) := by decide +kernel
theorem dX6_hoursOf_3 : decode cX6_hoursOf 3 = .ok (.istore_n 3, 1) := by decide +kernel
theorem dX6_hoursOf_4 : decode cX6_hoursOf 4 = .ok (.iload_n 3, 1) := by decide +kernel
theorem dX6_hoursOf_5 : decode cX6_hoursOf 5 = .ok (.aload_n 0, 1) := by decide +kernel
theorem dX6_hoursOf_6 : decode cX6_hoursOf 6 = .ok (.getfield 84, 3) := by decide +kernel
theorem dX6_hoursOf_9 : decode cX6_hoursOf 9 = .ok (.if_icmp .ge 26, 3) := by decide +kernel
theorem dX6_hoursOf_12 : decode cX6_hoursOf 12 = .ok (.iload_n 1, 1) := by decide +kernel
theorem dX6_hoursOf_13 : decode cX6_hoursOf 13 = .ok (.iload_n 3, 1) := by decide +kernel
theorem dX6_hoursOf_14 : decode cX6_hoursOf 14 = .ok (.invokestatic 87, 3) := by decide +kernel
theorem dX6_hoursOf_17 : decode cX6_hoursOf 17 = .ok (.ifCond .eq 12, 3) := by decide +kernel
theorem dX6_hoursOf_20 : decode cX6_hoursOf 20 = .ok (.iload_n 2, 1) := by decide +kernel
theorem dX6_hoursOf_21 : decode cX6_hoursOf 21 = .ok (.aload_n 0, 1) := by decide +kernel
theorem dX6_hoursOf_22 : decode cX6_hoursOf 22 = .ok (.getfield 16, 3) := by decide +kernel
theorem dX6_hoursOf_25 : decode cX6_hoursOf 25 = .ok (.iload_n 3, 1) := by decide +kernel
theorem dX6_hoursOf_26 : decode cX6_hoursOf 26 = .ok (.iaload, 1) := by decide +kernel
theorem dX6_hoursOf_27 : decode cX6_hoursOf 27 = .ok (.iadd, 1) := by decide +kernel
theorem dX6_hoursOf_28 : decode cX6_hoursOf 28 = .ok (.istore_n 2, 1) := by decide +kernel
theorem dX6_hoursOf_29 : decode cX6_hoursOf 29 = .ok (.iinc 3 1, 3) := by decide +kernel
theorem dX6_hoursOf_32 : decode cX6_hoursOf 32 = .ok (.goto (-28), 3) := by decide +kernel
theorem dX6_hoursOf_35 : decode cX6_hoursOf 35 = .ok (.iload_n 2, 1) := by decide +kernel
theorem dX6_hoursOf_36 : decode cX6_hoursOf 36 = .ok (.ireturn, 1) := by decide +kernel
theorem dX6_restOf_0 : decode cX6_restOf 0 = .ok (.aload_n 0, 1) := by decide +kernel
theorem dX6_restOf_1 : decode cX6_restOf 1 = .ok (.getfield 22, 3) := by decide +kernel
theorem dX6_restOf_4 : decode cX6_restOf 4 = .ok (.iload_n 1, 1) := by decide +kernel
theorem dX6_restOf_5 : decode cX6_restOf 5 = .ok (.iaload, 1) := by decide +kernel
theorem dX6_restOf_6 : decode cX6_restOf 6 = .ok (.iconst 1, 1) := by decide +kernel
theorem dX6_restOf_7 : decode cX6_restOf 7 = .ok (.if_icmp .ne 10, 3) := by decide +kernel
theorem dX6_restOf_10 : decode cX6_restOf 10 = .ok (.aload_n 0, 1) := by decide +kernel
theorem dX6_restOf_11 : decode cX6_restOf 11 = .ok (.getfield 40, 3) := by decide +kernel
theorem dX6_restOf_14 : decode cX6_restOf 14 = .ok (.goto 4, 3) := by decide +kernel
theorem dX6_restOf_17 : decode cX6_restOf 17 = .ok (.iconst 0, 1) := by decide +kernel
theorem dX6_restOf_18 : decode cX6_restOf 18 = .ok (.istore_n 2, 1) := by decide +kernel
theorem dX6_restOf_19 : decode cX6_restOf 19 = .ok (.aload_n 0, 1) := by decide +kernel
theorem dX6_restOf_20 : decode cX6_restOf 20 = .ok (.getfield 13, 3) := by decide +kernel
theorem dX6_restOf_23 : decode cX6_restOf 23 = .ok (.iload_n 1, 1) := by decide +kernel
theorem dX6_restOf_24 : decode cX6_restOf 24 = .ok (.iaload, 1) := by decide +kernel
theorem dX6_restOf_25 : decode cX6_restOf 25 = .ok (.iconst 1, 1) := by decide +kernel
theorem dX6_restOf_26 : decode cX6_restOf 26 = .ok (.if_icmp .le 10, 3) := by decide +kernel
theorem dX6_restOf_29 : decode cX6_restOf 29 = .ok (.aload_n 0, 1) := by decide +kernel
theorem dX6_restOf_30 : decode cX6_restOf 30 = .ok (.getfield 44, 3) := by decide +kernel
theorem dX6_restOf_33 : decode cX6_restOf 33 = .ok (.goto 4, 3) := by decide +kernel
theorem dX6_restOf_36 : decode cX6_restOf 36 = .ok (.iconst 0, 1) := by decide +kernel
theorem dX6_restOf_37 : decode cX6_restOf 37 = .ok (.istore_n 3, 1) := by decide +kernel
theorem dX6_restOf_38 : decode cX6_restOf 38 = .ok (.iload_n 2, 1) := by decide +kernel
theorem dX6_restOf_39 : decode cX6_restOf 39 = .ok (.iload_n 3, 1) := by decide +kernel
theorem dX6_restOf_40 : decode cX6_restOf 40 = .ok (.if_icmp .le 7, 3) := by decide +kernel
theorem dX6_restOf_43 : decode cX6_restOf 43 = .ok (.iload_n 2, 1) := by decide +kernel
theorem dX6_restOf_44 : decode cX6_restOf 44 = .ok (.goto 4, 3) := by decide +kernel
theorem dX6_restOf_47 : decode cX6_restOf 47 = .ok (.iload_n 3, 1) := by decide +kernel
theorem dX6_restOf_48 : decode cX6_restOf 48 = .ok (.ireturn, 1) := by decide +kernel
theorem dX6_whyNot_0 : decode cX6_whyNot 0 = .ok (.iconst 0, 1) := by decide +kernel
theorem dX6_whyNot_1 : decode cX6_whyNot 1 = .ok (.istore_n 3, 1) := by decide +kernel
theorem dX6_whyNot_2 : decode cX6_whyNot 2 = .ok (.iload_n 3, 1) := by decide +kernel
theorem dX6_whyNot_3 : decode cX6_whyNot 3 = .ok (.aload_n 0, 1) := by decide +kernel
theorem dX6_whyNot_4 : decode cX6_whyNot 4 = .ok (.getfield 84, 3) := by decide +kernel
theorem dX6_whyNot_7 : decode cX6_whyNot 7 = .ok (.if_icmp .ge 37, 3) := by decide +kernel
theorem dX6_whyNot_10 : decode cX6_whyNot 10 = .ok (.iload_n 2, 1) := by decide +kernel
theorem dX6_whyNot_11 : decode cX6_whyNot 11 = .ok (.iload_n 3, 1) := by decide +kernel
theorem dX6_whyNot_12 : decode cX6_whyNot 12 = .ok (.invokestatic 87, 3) := by decide +kernel
theorem dX6_whyNot_15 : decode cX6_whyNot 15 = .ok (.ifCond .eq 23, 3) := by decide +kernel
theorem dX6_whyNot_18 : decode cX6_whyNot 18 = .ok (.aload_n 0, 1) := by decide +kernel
theorem dX6_whyNot_19 : decode cX6_whyNot 19 = .ok (.getfield 25, 3) := by decide +kernel
theorem dX6_whyNot_22 : decode cX6_whyNot 22 = .ok (.iload_n 1, 1) := by decide +kernel
theorem dX6_whyNot_23 : decode cX6_whyNot 23 = .ok (.iaload, 1) := by decide +kernel
theorem dX6_whyNot_24 : decode cX6_whyNot 24 = .ok (.aload_n 0, 1) := by decide +kernel
theorem dX6_whyNot_25 : decode cX6_whyNot 25 = .ok (.getfield 19, 3) := by decide +kernel
theorem dX6_whyNot_28 : decode cX6_whyNot 28 = .ok (.iload_n 3, 1) := by decide +kernel
theorem dX6_whyNot_29 : decode cX6_whyNot 29 = .ok (.iaload, 1) := by decide +kernel
theorem dX6_whyNot_30 : decode cX6_whyNot 30 = .ok (.invokestatic 87, 3) := by decide +kernel
theorem dX6_whyNot_33 : decode cX6_whyNot 33 = .ok (.ifCond .ne 5, 3) := by decide +kernel
theorem dX6_whyNot_36 : decode cX6_whyNot 36 = .ok (.iconst 1, 1) := by decide +kernel
theorem dX6_whyNot_37 : decode cX6_whyNot 37 = .ok (.ireturn, 1) := by decide +kernel
theorem dX6_whyNot_38 : decode cX6_whyNot 38 = .ok (.iinc 3 1, 3) := by decide +kernel
theorem dX6_whyNot_41 : decode cX6_whyNot 41 = .ok (.goto (-39), 3) := by decide +kernel
theorem dX6_whyNot_44 : decode cX6_whyNot 44 = .ok (.iconst 0, 1) := by decide +kernel
theorem dX6_whyNot_45 : decode cX6_whyNot 45 = .ok (.istore_n 3, 1) := by decide +kernel
theorem dX6_whyNot_46 : decode cX6_whyNot 46 = .ok (.iload_n 3, 1) := by decide +kernel
theorem dX6_whyNot_47 : decode cX6_whyNot 47 = .ok (.bipush 14, 2) := by decide +kernel
theorem dX6_whyNot_49 : decode cX6_whyNot 49 = .ok (.if_icmp .ge 21, 3) := by decide +kernel
theorem dX6_whyNot_52 : decode cX6_whyNot 52 = .ok (.aload_n 0, 1) := by decide +kernel
theorem dX6_whyNot_53 : decode cX6_whyNot 53 = .ok (.iload_n 2, 1) := by decide +kernel
theorem dX6_whyNot_54 : decode cX6_whyNot 54 = .ok (.iload_n 3, 1) := by decide +kernel
theorem dX6_whyNot_55 : decode cX6_whyNot 55 = .ok (.invokevirtual 108, 3) := by decide +kernel
theorem dX6_whyNot_58 : decode cX6_whyNot 58 = .ok (.iconst 1, 1) := by decide +kernel
theorem dX6_whyNot_59 : decode cX6_whyNot 59 = .ok (.if_icmp .le 5, 3) := by decide +kernel
theorem dX6_whyNot_62 : decode cX6_whyNot 62 = .ok (.iconst 2, 1) := by decide +kernel
theorem dX6_whyNot_63 : decode cX6_whyNot 63 = .ok (.ireturn, 1) := by decide +kernel
theorem dX6_whyNot_64 : decode cX6_whyNot 64 = .ok (.iinc 3 1, 3) := by decide +kernel
theorem dX6_whyNot_67 : decode cX6_whyNot 67 = .ok (.goto (-21), 3) := by decide +kernel
theorem dX6_whyNot_70 : decode cX6_whyNot 70 = .ok (.iconst 0, 1) := by decide +kernel
theorem dX6_whyNot_71 : decode cX6_whyNot 71 = .ok (.istore_n 3, 1) := by decide +kernel
theorem dX6_whyNot_72 : decode cX6_whyNot 72 = .ok (.iload_n 3, 1) := by decide +kernel
theorem dX6_whyNot_73 : decode cX6_whyNot 73 = .ok (.aload_n 0, 1) := by decide +kernel
theorem dX6_whyNot_74 : decode cX6_whyNot 74 = .ok (.getfield 84, 3) := by decide +kernel
theorem dX6_whyNot_77 : decode cX6_whyNot 77 = .ok (.if_icmp .ge 77, 3) := by decide +kernel
theorem dX6_whyNot_80 : decode cX6_whyNot 80 = .ok (.iload_n 2, 1) := by decide +kernel
theorem dX6_whyNot_81 : decode cX6_whyNot 81 = .ok (.iload_n 3, 1) := by decide +kernel
theorem dX6_whyNot_82 : decode cX6_whyNot 82 = .ok (.invokestatic 87, 3) := by decide +kernel
theorem dX6_whyNot_85 : decode cX6_whyNot 85 = .ok (.ifCond .ne 6, 3) := by decide +kernel
theorem dX6_whyNot_88 : decode cX6_whyNot 88 = .ok (.goto 60, 3) := by decide +kernel
theorem dX6_whyNot_91 : decode cX6_whyNot 91 = .ok (.aload_n 0, 1) := by decide +kernel
theorem dX6_whyNot_92 : decode cX6_whyNot 92 = .ok (.getfield 9, 3) := by decide +kernel
theorem dX6_whyNot_95 : decode cX6_whyNot 95 = .ok (.iload_n 3, 1) := by decide +kernel
theorem dX6_whyNot_96 : decode cX6_whyNot 96 = .ok (.iaload, 1) := by decide +kernel
theorem dX6_whyNot_97 : decode cX6_whyNot 97 = .ok (.aload_n 0, 1) := by decide +kernel
theorem dX6_whyNot_98 : decode cX6_whyNot 98 = .ok (.getfield 13, 3) := by decide +kernel
theorem dX6_whyNot_101 : decode cX6_whyNot 101 = .ok (.iload_n 3, 1) := by decide +kernel
theorem dX6_whyNot_102 : decode cX6_whyNot 102 = .ok (.iaload, 1) := by decide +kernel
theorem dX6_whyNot_103 : decode cX6_whyNot 103 = .ok (.iadd, 1) := by decide +kernel
theorem dX6_whyNot_104 : decode cX6_whyNot 104 = .ok (.istore 4, 2) := by decide +kernel
theorem dX6_whyNot_106 : decode cX6_whyNot 106 = .ok (.iload 4, 2) := by decide +kernel
theorem dX6_whyNot_108 : decode cX6_whyNot 108 = .ok (.istore 5, 2) := by decide +kernel
theorem dX6_whyNot_110 : decode cX6_whyNot 110 = .ok (.iload 5, 2) := by decide +kernel
theorem dX6_whyNot_112 : decode cX6_whyNot 112 = .ok (.iload 4, 2) := by decide +kernel
theorem dX6_whyNot_114 : decode cX6_whyNot 114 = .ok (.aload_n 0, 1) := by decide +kernel
theorem dX6_whyNot_115 : decode cX6_whyNot 115 = .ok (.iload_n 3, 1) := by decide +kernel
theorem dX6_whyNot_116 : decode cX6_whyNot 116 = .ok (.invokevirtual 112, 3) := by decide +kernel
theorem dX6_whyNot_119 : decode cX6_whyNot 119 = .ok (.iadd, 1) := by decide +kernel
theorem dX6_whyNot_120 : decode cX6_whyNot 120 = .ok (.if_icmp .ge 28, 3) := by decide +kernel
theorem dX6_whyNot_123 : decode cX6_whyNot 123 = .ok (.iload 5, 2) := by decide +kernel
theorem dX6_whyNot_125 : decode cX6_whyNot 125 = .ok (.bipush 14, 2) := by decide +kernel
theorem dX6_whyNot_127 : decode cX6_whyNot 127 = .ok (.if_icmp .ge 21, 3) := by decide +kernel
theorem dX6_whyNot_130 : decode cX6_whyNot 130 = .ok (.aload_n 0, 1) := by decide +kernel
theorem dX6_whyNot_131 : decode cX6_whyNot 131 = .ok (.iload_n 2, 1) := by decide +kernel
theorem dX6_whyNot_132 : decode cX6_whyNot 132 = .ok (.iload 5, 2) := by decide +kernel
theorem dX6_whyNot_134 : decode cX6_whyNot 134 = .ok (.invokevirtual 108, 3) := by decide +kernel
theorem dX6_whyNot_137 : decode cX6_whyNot 137 = .ok (.ifCond .le 5, 3) := by decide +kernel
theorem dX6_whyNot_140 : decode cX6_whyNot 140 = .ok (.iconst 3, 1) := by decide +kernel
theorem dX6_whyNot_141 : decode cX6_whyNot 141 = .ok (.ireturn, 1) := by decide +kernel
theorem dX6_whyNot_142 : decode cX6_whyNot 142 = .ok (.iinc 5 1, 3) := by decide +kernel
theorem dX6_whyNot_145 : decode cX6_whyNot 145 = .ok (.goto (-35), 3) := by decide +kernel
theorem dX6_whyNot_148 : decode cX6_whyNot 148 = .ok (.iinc 3 1, 3) := by decide +kernel
theorem dX6_whyNot_151 : decode cX6_whyNot 151 = .ok (.goto (-79), 3) := by decide +kernel
theorem dX6_whyNot_154 : decode cX6_whyNot 154 = .ok (.iconst 0, 1) := by decide +kernel
theorem dX6_whyNot_155 : decode cX6_whyNot 155 = .ok (.istore_n 3, 1) := by decide +kernel
theorem dX6_whyNot_156 : decode cX6_whyNot 156 = .ok (.iconst 0, 1) := by decide +kernel
theorem dX6_whyNot_157 : decode cX6_whyNot 157 = .ok (.istore 4, 2) := by decide +kernel
theorem dX6_whyNot_159 : decode cX6_whyNot 159 = .ok (.iload 4, 2) := by decide +kernel
theorem dX6_whyNot_161 : decode cX6_whyNot 161 = .ok (.bipush 14, 2) := by decide +kernel
theorem dX6_whyNot_163 : decode cX6_whyNot 163 = .ok (.if_icmp .ge 37, 3) := by decide +kernel
theorem dX6_whyNot_166 : decode cX6_whyNot 166 = .ok (.aload_n 0, 1) := by decide +kernel
theorem dX6_whyNot_167 : decode cX6_whyNot 167 = .ok (.iload_n 2, 1) := by decide +kernel
theorem dX6_whyNot_168 : decode cX6_whyNot 168 = .ok (.iload 4, 2) := by decide +kernel
theorem dX6_whyNot_170 : decode cX6_whyNot 170 = .ok (.invokevirtual 108, 3) := by decide +kernel
theorem dX6_whyNot_173 : decode cX6_whyNot 173 = .ok (.ifCond .le 9, 3) := by decide +kernel
theorem dX6_whyNot_176 : decode cX6_whyNot 176 = .ok (.iload_n 3, 1) := by decide +kernel
theorem dX6_whyNot_177 : decode cX6_whyNot 177 = .ok (.iconst 1, 1) := by decide +kernel
theorem dX6_whyNot_178 : decode cX6_whyNot 178 = .ok (.iadd, 1) := by decide +kernel
theorem dX6_whyNot_179 : decode cX6_whyNot 179 = .ok (.goto 4, 3) := by decide +kernel
theorem dX6_whyNot_182 : decode cX6_whyNot 182 = .ok (.iconst 0, 1) := by decide +kernel
theorem dX6_whyNot_183 : decode cX6_whyNot 183 = .ok (.istore_n 3, 1) := by decide +kernel
theorem dX6_whyNot_184 : decode cX6_whyNot 184 = .ok (.iload_n 3, 1) := by decide +kernel
theorem dX6_whyNot_185 : decode cX6_whyNot 185 = .ok (.aload_n 0, 1) := by decide +kernel
theorem dX6_whyNot_186 : decode cX6_whyNot 186 = .ok (.getfield 47, 3) := by decide +kernel
theorem dX6_whyNot_189 : decode cX6_whyNot 189 = .ok (.if_icmp .le 5, 3) := by decide +kernel
theorem dX6_whyNot_192 : decode cX6_whyNot 192 = .ok (.iconst 4, 1) := by decide +kernel
theorem dX6_whyNot_193 : decode cX6_whyNot 193 = .ok (.ireturn, 1) := by decide +kernel
theorem dX6_whyNot_194 : decode cX6_whyNot 194 = .ok (.iinc 4 1, 3) := by decide +kernel
theorem dX6_whyNot_197 : decode cX6_whyNot 197 = .ok (.goto (-38), 3) := by decide +kernel
theorem dX6_whyNot_200 : decode cX6_whyNot 200 = .ok (.iconst 0, 1) := by decide +kernel
theorem dX6_whyNot_201 : decode cX6_whyNot 201 = .ok (.istore 4, 2) := by decide +kernel
theorem dX6_whyNot_203 : decode cX6_whyNot 203 = .ok (.iload 4, 2) := by decide +kernel
theorem dX6_whyNot_205 : decode cX6_whyNot 205 = .ok (.bipush 14, 2) := by decide +kernel
theorem dX6_whyNot_207 : decode cX6_whyNot 207 = .ok (.if_icmp .ge 89, 3) := by decide +kernel
theorem dX6_whyNot_210 : decode cX6_whyNot 210 = .ok (.iconst 0, 1) := by decide +kernel
theorem dX6_whyNot_211 : decode cX6_whyNot 211 = .ok (.istore 5, 2) := by decide +kernel
theorem dX6_whyNot_213 : decode cX6_whyNot 213 = .ok (.iconst 0, 1) := by decide +kernel
theorem dX6_whyNot_214 : decode cX6_whyNot 214 = .ok (.istore 6, 2) := by decide +kernel
theorem dX6_whyNot_216 : decode cX6_whyNot 216 = .ok (.iload 6, 2) := by decide +kernel
theorem dX6_whyNot_218 : decode cX6_whyNot 218 = .ok (.aload_n 0, 1) := by decide +kernel
theorem dX6_whyNot_219 : decode cX6_whyNot 219 = .ok (.getfield 84, 3) := by decide +kernel
theorem dX6_whyNot_222 : decode cX6_whyNot 222 = .ok (.if_icmp .ge 57, 3) := by decide +kernel
theorem dX6_whyNot_225 : decode cX6_whyNot 225 = .ok (.iload_n 2, 1) := by decide +kernel
theorem dX6_whyNot_226 : decode cX6_whyNot 226 = .ok (.iload 6, 2) := by decide +kernel
theorem dX6_whyNot_228 : decode cX6_whyNot 228 = .ok (.invokestatic 87, 3) := by decide +kernel
theorem dX6_whyNot_231 : decode cX6_whyNot 231 = .ok (.ifCond .eq 42, 3) := by decide +kernel
theorem dX6_whyNot_234 : decode cX6_whyNot 234 = .ok (.aload_n 0, 1) := by decide +kernel
theorem dX6_whyNot_235 : decode cX6_whyNot 235 = .ok (.getfield 9, 3) := by decide +kernel
theorem dX6_whyNot_238 : decode cX6_whyNot 238 = .ok (.iload 6, 2) := by decide +kernel
theorem dX6_whyNot_240 : decode cX6_whyNot 240 = .ok (.iaload, 1) := by decide +kernel
theorem dX6_whyNot_241 : decode cX6_whyNot 241 = .ok (.iload 4, 2) := by decide +kernel
theorem dX6_whyNot_243 : decode cX6_whyNot 243 = .ok (.if_icmp .lt 30, 3) := by decide +kernel
theorem dX6_whyNot_246 : decode cX6_whyNot 246 = .ok (.aload_n 0, 1) := by decide +kernel
theorem dX6_whyNot_247 : decode cX6_whyNot 247 = .ok (.getfield 9, 3) := by decide +kernel
theorem dX6_whyNot_250 : decode cX6_whyNot 250 = .ok (.iload 6, 2) := by decide +kernel
theorem dX6_whyNot_252 : decode cX6_whyNot 252 = .ok (.iaload, 1) := by decide +kernel
theorem dX6_whyNot_253 : decode cX6_whyNot 253 = .ok (.iload 4, 2) := by decide +kernel
theorem dX6_whyNot_255 : decode cX6_whyNot 255 = .ok (.bipush 7, 2) := by decide +kernel
theorem dX6_whyNot_257 : decode cX6_whyNot 257 = .ok (.iadd, 1) := by decide +kernel
theorem dX6_whyNot_258 : decode cX6_whyNot 258 = .ok (.if_icmp .ge 15, 3) := by decide +kernel
theorem dX6_whyNot_261 : decode cX6_whyNot 261 = .ok (.iload 5, 2) := by decide +kernel
theorem dX6_whyNot_263 : decode cX6_whyNot 263 = .ok (.aload_n 0, 1) := by decide +kernel
theorem dX6_whyNot_264 : decode cX6_whyNot 264 = .ok (.getfield 16, 3) := by decide +kernel
theorem dX6_whyNot_267 : decode cX6_whyNot 267 = .ok (.iload 6, 2) := by decide +kernel
theorem dX6_whyNot_269 : decode cX6_whyNot 269 = .ok (.iaload, 1) := by decide +kernel
theorem dX6_whyNot_270 : decode cX6_whyNot 270 = .ok (.iadd, 1) := by decide +kernel
theorem dX6_whyNot_271 : decode cX6_whyNot 271 = .ok (.istore 5, 2) := by decide +kernel
theorem dX6_whyNot_273 : decode cX6_whyNot 273 = .ok (.iinc 6 1, 3) := by decide +kernel
theorem dX6_whyNot_276 : decode cX6_whyNot 276 = .ok (.goto (-60), 3) := by decide +kernel
theorem dX6_whyNot_279 : decode cX6_whyNot 279 = .ok (.iload 5, 2) := by decide +kernel
theorem dX6_whyNot_281 : decode cX6_whyNot 281 = .ok (.aload_n 0, 1) := by decide +kernel
theorem dX6_whyNot_282 : decode cX6_whyNot 282 = .ok (.getfield 50, 3) := by decide +kernel
theorem dX6_whyNot_285 : decode cX6_whyNot 285 = .ok (.if_icmp .le 5, 3) := by decide +kernel
theorem dX6_whyNot_288 : decode cX6_whyNot 288 = .ok (.iconst 5, 1) := by decide +kernel
theorem dX6_whyNot_289 : decode cX6_whyNot 289 = .ok (.ireturn, 1) := by decide +kernel
theorem dX6_whyNot_290 : decode cX6_whyNot 290 = .ok (.iinc 4 1, 3) := by decide +kernel
theorem dX6_whyNot_293 : decode cX6_whyNot 293 = .ok (.goto (-90), 3) := by decide +kernel
theorem dX6_whyNot_296 : decode cX6_whyNot 296 = .ok (.aload_n 0, 1) := by decide +kernel
theorem dX6_whyNot_297 : decode cX6_whyNot 297 = .ok (.iload_n 2, 1) := by decide +kernel
theorem dX6_whyNot_298 : decode cX6_whyNot 298 = .ok (.invokevirtual 116, 3) := by decide +kernel
theorem dX6_whyNot_301 : decode cX6_whyNot 301 = .ok (.aload_n 0, 1) := by decide +kernel
theorem dX6_whyNot_302 : decode cX6_whyNot 302 = .ok (.getfield 28, 3) := by decide +kernel
theorem dX6_whyNot_305 : decode cX6_whyNot 305 = .ok (.iload_n 1, 1) := by decide +kernel
theorem dX6_whyNot_306 : decode cX6_whyNot 306 = .ok (.iaload, 1) := by decide +kernel
theorem dX6_whyNot_307 : decode cX6_whyNot 307 = .ok (.if_icmp .le 8, 3) := by decide +kernel
theorem dX6_whyNot_310 : decode cX6_whyNot 310 = .ok (.bipush 6, 2) := by decide +kernel
theorem dX6_whyNot_312 : decode cX6_whyNot 312 = .ok (.goto 4, 3) := by decide +kernel
theorem dX6_whyNot_315 : decode cX6_whyNot 315 = .ok (.iconst 0, 1) := by decide +kernel
theorem dX6_whyNot_316 : decode cX6_whyNot 316 = .ok (.ireturn, 1) := by decide +kernel
theorem dX6_isMet_0 : decode cX6_isMet 0 = .ok (.aload_n 0, 1) := by decide +kernel
theorem dX6_isMet_1 : decode cX6_isMet 1 = .ok (.getfield 37, 3) := by decide +kernel
theorem dX6_isMet_4 : decode cX6_isMet 4 = .ok (.iconst 5, 1) := by decide +kernel
theorem dX6_isMet_5 : decode cX6_isMet 5 = .ok (.iload_n 1, 1) := by decide +kernel
theorem dX6_isMet_6 : decode cX6_isMet 6 = .ok (.imul, 1) := by decide +kernel
theorem dX6_isMet_7 : decode cX6_isMet 7 = .ok (.iload_n 2, 1) := by decide +kernel
theorem dX6_isMet_8 : decode cX6_isMet 8 = .ok (.iadd, 1) := by decide +kernel
theorem dX6_isMet_9 : decode cX6_isMet 9 = .ok (.iaload, 1) := by decide +kernel
theorem dX6_isMet_10 : decode cX6_isMet 10 = .ok (.istore 4, 2) := by decide +kernel
theorem dX6_isMet_12 : decode cX6_isMet 12 = .ok (.aload_n 0, 1) := by decide +kernel
theorem dX6_isMet_13 : decode cX6_isMet 13 = .ok (.getfield 34, 3) := by decide +kernel
theorem dX6_isMet_16 : decode cX6_isMet 16 = .ok (.iconst 5, 1) := by decide +kernel
theorem dX6_isMet_17 : decode cX6_isMet 17 = .ok (.iload_n 1, 1) := by decide +kernel
theorem dX6_isMet_18 : decode cX6_isMet 18 = .ok (.imul, 1) := by decide +kernel
theorem dX6_isMet_19 : decode cX6_isMet 19 = .ok (.iload_n 2, 1) := by decide +kernel
theorem dX6_isMet_20 : decode cX6_isMet 20 = .ok (.iadd, 1) := by decide +kernel
theorem dX6_isMet_21 : decode cX6_isMet 21 = .ok (.iaload, 1) := by decide +kernel
theorem dX6_isMet_22 : decode cX6_isMet 22 = .ok (.tableswitch 130 0 4 #[34, 41, 56, 72, 114], 34) := by decide +kernel
theorem dX6_isMet_56 : decode cX6_isMet 56 = .ok (.iload_n 3, 1) := by decide +kernel
theorem dX6_isMet_57 : decode cX6_isMet 57 = .ok (.iload 4, 2) := by decide +kernel
theorem dX6_isMet_59 : decode cX6_isMet 59 = .ok (.invokestatic 87, 3) := by decide +kernel
theorem dX6_isMet_62 : decode cX6_isMet 62 = .ok (.ireturn, 1) := by decide +kernel
theorem dX6_isMet_63 : decode cX6_isMet 63 = .ok (.iload_n 3, 1) := by decide +kernel
theorem dX6_isMet_64 : decode cX6_isMet 64 = .ok (.iload 4, 2) := by decide +kernel
theorem dX6_isMet_66 : decode cX6_isMet 66 = .ok (.invokestatic 87, 3) := by decide +kernel
theorem dX6_isMet_69 : decode cX6_isMet 69 = .ok (.ifCond .ne 7, 3) := by decide +kernel
theorem dX6_isMet_72 : decode cX6_isMet 72 = .ok (.iconst 1, 1) := by decide +kernel
theorem dX6_isMet_73 : decode cX6_isMet 73 = .ok (.goto 4, 3) := by decide +kernel
theorem dX6_isMet_76 : decode cX6_isMet 76 = .ok (.iconst 0, 1) := by decide +kernel
theorem dX6_isMet_77 : decode cX6_isMet 77 = .ok (.ireturn, 1) := by decide +kernel
theorem dX6_isMet_78 : decode cX6_isMet 78 = .ok (.aload_n 0, 1) := by decide +kernel
theorem dX6_isMet_79 : decode cX6_isMet 79 = .ok (.iload_n 3, 1) := by decide +kernel
theorem dX6_isMet_80 : decode cX6_isMet 80 = .ok (.iload 4, 2) := by decide +kernel
theorem dX6_isMet_82 : decode cX6_isMet 82 = .ok (.invokevirtual 108, 3) := by decide +kernel
theorem dX6_isMet_85 : decode cX6_isMet 85 = .ok (.ifCond .ne 7, 3) := by decide +kernel
theorem dX6_isMet_88 : decode cX6_isMet 88 = .ok (.iconst 1, 1) := by decide +kernel
theorem dX6_isMet_89 : decode cX6_isMet 89 = .ok (.goto 4, 3) := by decide +kernel
theorem dX6_isMet_92 : decode cX6_isMet 92 = .ok (.iconst 0, 1) := by decide +kernel
theorem dX6_isMet_93 : decode cX6_isMet 93 = .ok (.ireturn, 1) := by decide +kernel
theorem dX6_isMet_94 : decode cX6_isMet 94 = .ok (.iconst 0, 1) := by decide +kernel
theorem dX6_isMet_95 : decode cX6_isMet 95 = .ok (.istore 5, 2) := by decide +kernel
theorem dX6_isMet_97 : decode cX6_isMet 97 = .ok (.iload 5, 2) := by decide +kernel
theorem dX6_isMet_99 : decode cX6_isMet 99 = .ok (.aload_n 0, 1) := by decide +kernel
theorem dX6_isMet_100 : decode cX6_isMet 100 = .ok (.getfield 84, 3) := by decide +kernel
theorem dX6_isMet_103 : decode cX6_isMet 103 = .ok (.if_icmp .ge 31, 3) := by decide +kernel
theorem dX6_isMet_106 : decode cX6_isMet 106 = .ok (.iload_n 3, 1) := by decide +kernel
theorem dX6_isMet_107 : decode cX6_isMet 107 = .ok (.iload 5, 2) := by decide +kernel
theorem dX6_isMet_109 : decode cX6_isMet 109 = .ok (.invokestatic 87, 3) := by decide +kernel
theorem dX6_isMet_112 : decode cX6_isMet 112 = .ok (.ifCond .eq 16, 3) := by decide +kernel
theorem dX6_isMet_115 : decode cX6_isMet 115 = .ok (.aload_n 0, 1) := by decide +kernel
theorem dX6_isMet_116 : decode cX6_isMet 116 = .ok (.getfield 22, 3) := by decide +kernel
theorem dX6_isMet_119 : decode cX6_isMet 119 = .ok (.iload 5, 2) := by decide +kernel
theorem dX6_isMet_121 : decode cX6_isMet 121 = .ok (.iaload, 1) := by decide +kernel
theorem dX6_isMet_122 : decode cX6_isMet 122 = .ok (.iconst 1, 1) := by decide +kernel
theorem dX6_isMet_123 : decode cX6_isMet 123 = .ok (.if_icmp .ne 5, 3) := by decide +kernel
theorem dX6_isMet_126 : decode cX6_isMet 126 = .ok (.iconst 0, 1) := by decide +kernel
theorem dX6_isMet_127 : decode cX6_isMet 127 = .ok (.ireturn, 1) := by decide +kernel
theorem dX6_isMet_128 : decode cX6_isMet 128 = .ok (.iinc 5 1, 3) := by decide +kernel
theorem dX6_isMet_131 : decode cX6_isMet 131 = .ok (.goto (-34), 3) := by decide +kernel
theorem dX6_isMet_134 : decode cX6_isMet 134 = .ok (.iconst 1, 1) := by decide +kernel
theorem dX6_isMet_135 : decode cX6_isMet 135 = .ok (.ireturn, 1) := by decide +kernel
theorem dX6_isMet_136 : decode cX6_isMet 136 = .ok (.aload_n 0, 1) := by decide +kernel
theorem dX6_isMet_137 : decode cX6_isMet 137 = .ok (.iload_n 3, 1) := by decide +kernel
theorem dX6_isMet_138 : decode cX6_isMet 138 = .ok (.invokevirtual 116, 3) := by decide +kernel
theorem dX6_isMet_141 : decode cX6_isMet 141 = .ok (.iload 4, 2) := by decide +kernel
theorem dX6_isMet_143 : decode cX6_isMet 143 = .ok (.if_icmp .gt 7, 3) := by decide +kernel
theorem dX6_isMet_146 : decode cX6_isMet 146 = .ok (.iconst 1, 1) := by decide +kernel
theorem dX6_isMet_147 : decode cX6_isMet 147 = .ok (.goto 4, 3) := by decide +kernel
theorem dX6_isMet_150 : decode cX6_isMet 150 = .ok (.iconst 0, 1) := by decide +kernel
theorem dX6_isMet_151 : decode cX6_isMet 151 = .ok (.ireturn, 1) := by decide +kernel
theorem dX6_isMet_152 : decode cX6_isMet 152 = .ok (.aload_n 0, 1) := by decide +kernel
theorem dX6_isMet_153 : decode cX6_isMet 153 = .ok (.iload_n 3, 1) := by decide +kernel
theorem dX6_isMet_154 : decode cX6_isMet 154 = .ok (.invokevirtual 116, 3) := by decide +kernel
theorem dX6_isMet_157 : decode cX6_isMet 157 = .ok (.iload 4, 2) := by decide +kernel
theorem dX6_isMet_159 : decode cX6_isMet 159 = .ok (.if_icmp .lt 7, 3) := by decide +kernel
theorem dX6_isMet_162 : decode cX6_isMet 162 = .ok (.iconst 1, 1) := by decide +kernel
theorem dX6_isMet_163 : decode cX6_isMet 163 = .ok (.goto 4, 3) := by decide +kernel
theorem dX6_isMet_166 : decode cX6_isMet 166 = .ok (.iconst 0, 1) := by decide +kernel
theorem dX6_isMet_167 : decode cX6_isMet 167 = .ok (.ireturn, 1) := by decide +kernel
theorem dX6_compares_0 : decode cX6_compares 0 = .ok (.iconst 0, 1) := by decide +kernel
theorem dX6_compares_1 : decode cX6_compares 1 = .ok (.istore 4, 2) := by decide +kernel
theorem dX6_compares_3 : decode cX6_compares 3 = .ok (.iload 4, 2) := by decide +kernel
theorem dX6_compares_5 : decode cX6_compares 5 = .ok (.aload_n 0, 1) := by decide +kernel
theorem dX6_compares_6 : decode cX6_compares 6 = .ok (.getfield 31, 3) := by decide +kernel
theorem dX6_compares_9 : decode cX6_compares 9 = .ok (.iload_n 1, 1) := by decide +kernel
theorem dX6_compares_10 : decode cX6_compares 10 = .ok (.iaload, 1) := by decide +kernel
theorem dX6_compares_11 : decode cX6_compares 11 = .ok (.if_icmp .ge 47, 3) := by decide +kernel
theorem dX6_compares_14 : decode cX6_compares 14 = .ok (.aload_n 0, 1) := by decide +kernel
theorem dX6_compares_15 : decode cX6_compares 15 = .ok (.iload_n 1, 1) := by decide +kernel
theorem dX6_compares_16 : decode cX6_compares 16 = .ok (.iload 4, 2) := by decide +kernel
theorem dX6_compares_18 : decode cX6_compares 18 = .ok (.iload_n 2, 1) := by decide +kernel
theorem dX6_compares_19 : decode cX6_compares 19 = .ok (.invokevirtual 119, 3) := by decide +kernel
theorem dX6_compares_22 : decode cX6_compares 22 = .ok (.istore 5, 2) := by decide +kernel
theorem dX6_compares_24 : decode cX6_compares 24 = .ok (.aload_n 0, 1) := by decide +kernel
theorem dX6_compares_25 : decode cX6_compares 25 = .ok (.iload_n 1, 1) := by decide +kernel
theorem dX6_compares_26 : decode cX6_compares 26 = .ok (.iload 4, 2) := by decide +kernel
theorem dX6_compares_28 : decode cX6_compares 28 = .ok (.iload_n 3, 1) := by decide +kernel
theorem dX6_compares_29 : decode cX6_compares 29 = .ok (.invokevirtual 119, 3) := by decide +kernel
theorem dX6_compares_32 : decode cX6_compares 32 = .ok (.istore 6, 2) := by decide +kernel
theorem dX6_compares_34 : decode cX6_compares 34 = .ok (.iload 5, 2) := by decide +kernel
theorem dX6_compares_36 : decode cX6_compares 36 = .ok (.iload 6, 2) := by decide +kernel
theorem dX6_compares_38 : decode cX6_compares 38 = .ok (.if_icmp .eq 14, 3) := by decide +kernel
theorem dX6_compares_41 : decode cX6_compares 41 = .ok (.iload 5, 2) := by decide +kernel
theorem dX6_compares_43 : decode cX6_compares 43 = .ok (.ifCond .eq 7, 3) := by decide +kernel
theorem dX6_compares_46 : decode cX6_compares 46 = .ok (.iconst 2, 1) := by decide +kernel
theorem dX6_compares_47 : decode cX6_compares 47 = .ok (.goto 4, 3) := by decide +kernel
theorem dX6_compares_50 : decode cX6_compares 50 = .ok (.iconst 0, 1) := by decide +kernel
theorem dX6_compares_51 : decode cX6_compares 51 = .ok (.ireturn, 1) := by decide +kernel
theorem dX6_compares_52 : decode cX6_compares 52 = .ok (.iinc 4 1, 3) := by decide +kernel
theorem dX6_compares_55 : decode cX6_compares 55 = .ok (.goto (-52), 3) := by decide +kernel
theorem dX6_compares_58 : decode cX6_compares 58 = .ok (.iconst 0, 1) := by decide +kernel
theorem dX6_compares_59 : decode cX6_compares 59 = .ok (.istore 4, 2) := by decide +kernel
theorem dX6_compares_61 : decode cX6_compares 61 = .ok (.iload 4, 2) := by decide +kernel
theorem dX6_compares_63 : decode cX6_compares 63 = .ok (.aload_n 0, 1) := by decide +kernel
theorem dX6_compares_64 : decode cX6_compares 64 = .ok (.getfield 84, 3) := by decide +kernel
theorem dX6_compares_67 : decode cX6_compares 67 = .ok (.if_icmp .ge 39, 3) := by decide +kernel
theorem dX6_compares_70 : decode cX6_compares 70 = .ok (.iload_n 2, 1) := by decide +kernel
theorem dX6_compares_71 : decode cX6_compares 71 = .ok (.iload 4, 2) := by decide +kernel
theorem dX6_compares_73 : decode cX6_compares 73 = .ok (.invokestatic 87, 3) := by decide +kernel
theorem dX6_compares_76 : decode cX6_compares 76 = .ok (.iload_n 3, 1) := by decide +kernel
theorem dX6_compares_77 : decode cX6_compares 77 = .ok (.iload 4, 2) := by decide +kernel
theorem dX6_compares_79 : decode cX6_compares 79 = .ok (.invokestatic 87, 3) := by decide +kernel
theorem dX6_compares_82 : decode cX6_compares 82 = .ok (.if_icmp .eq 18, 3) := by decide +kernel
theorem dX6_compares_85 : decode cX6_compares 85 = .ok (.iload_n 2, 1) := by decide +kernel
theorem dX6_compares_86 : decode cX6_compares 86 = .ok (.iload 4, 2) := by decide +kernel
theorem dX6_compares_88 : decode cX6_compares 88 = .ok (.invokestatic 87, 3) := by decide +kernel
theorem dX6_compares_91 : decode cX6_compares 91 = .ok (.ifCond .eq 7, 3) := by decide +kernel
theorem dX6_compares_94 : decode cX6_compares 94 = .ok (.iconst 1, 1) := by decide +kernel
theorem dX6_compares_95 : decode cX6_compares 95 = .ok (.goto 4, 3) := by decide +kernel
theorem dX6_compares_98 : decode cX6_compares 98 = .ok (.iconst 0, 1) := by decide +kernel
theorem dX6_compares_99 : decode cX6_compares 99 = .ok (.ireturn, 1) := by decide +kernel
theorem dX6_compares_100 : decode cX6_compares 100 = .ok (.iinc 4 1, 3) := by decide +kernel
theorem dX6_compares_103 : decode cX6_compares 103 = .ok (.goto (-42), 3) := by decide +kernel
theorem dX6_compares_106 : decode cX6_compares 106 = .ok (.iconst 0, 1) := by decide +kernel
theorem dX6_compares_107 : decode cX6_compares 107 = .ok (.ireturn, 1) := by decide +kernel
theorem dX6_marks_0 : decode cX6_marks 0 = .ok (.aload_n 0, 1) := by decide +kernel
theorem dX6_marks_1 : decode cX6_marks 1 = .ok (.getfield 91, 3) := by decide +kernel
theorem dX6_marks_4 : decode cX6_marks 4 = .ok (.ifCond .eq 4, 3) := by decide +kernel
theorem dX6_marks_7 : decode cX6_marks 7 = .ok (.return_, 1) := by decide +kernel
theorem dX6_marks_8 : decode cX6_marks 8 = .ok (.aload_n 0, 1) := by decide +kernel
theorem dX6_marks_9 : decode cX6_marks 9 = .ok (.iconst 1, 1) := by decide +kernel
theorem dX6_marks_10 : decode cX6_marks 10 = .ok (.putfield 91, 3) := by decide +kernel
theorem dX6_marks_13 : decode cX6_marks 13 = .ok (.iconst 0, 1) := by decide +kernel
theorem dX6_marks_14 : decode cX6_marks 14 = .ok (.istore_n 1, 1) := by decide +kernel
theorem dX6_marks_15 : decode cX6_marks 15 = .ok (.iload_n 1, 1) := by decide +kernel
theorem dX6_marks_16 : decode cX6_marks 16 = .ok (.aload_n 0, 1) := by decide +kernel
theorem dX6_marks_17 : decode cX6_marks 17 = .ok (.getfield 81, 3) := by decide +kernel
theorem dX6_marks_20 : decode cX6_marks 20 = .ok (.if_icmp .ge 53, 3) := by decide +kernel
theorem dX6_marks_23 : decode cX6_marks 23 = .ok (.iconst 0, 1) := by decide +kernel
theorem dX6_marks_24 : decode cX6_marks 24 = .ok (.istore_n 2, 1) := by decide +kernel
theorem dX6_marks_25 : decode cX6_marks 25 = .ok (.iload_n 2, 1) := by decide +kernel
theorem dX6_marks_26 : decode cX6_marks 26 = .ok (.iconst 1, 1) := by decide +kernel
theorem dX6_marks_27 : decode cX6_marks 27 = .ok (.aload_n 0, 1) := by decide +kernel
theorem dX6_marks_28 : decode cX6_marks 28 = .ok (.getfield 84, 3) := by decide +kernel
theorem dX6_marks_31 : decode cX6_marks 31 = .ok (.ishl, 1) := by decide +kernel
theorem dX6_marks_32 : decode cX6_marks 32 = .ok (.if_icmp .ge 35, 3) := by decide +kernel
theorem dX6_marks_35 : decode cX6_marks 35 = .ok (.aload_n 0, 1) := by decide +kernel
theorem dX6_marks_36 : decode cX6_marks 36 = .ok (.getfield 53, 3) := by decide +kernel
theorem dX6_marks_39 : decode cX6_marks 39 = .ok (.sipush 512, 3) := by decide +kernel
theorem dX6_marks_42 : decode cX6_marks 42 = .ok (.iload_n 1, 1) := by decide +kernel
theorem dX6_marks_43 : decode cX6_marks 43 = .ok (.imul, 1) := by decide +kernel
theorem dX6_marks_44 : decode cX6_marks 44 = .ok (.iload_n 2, 1) := by decide +kernel
theorem dX6_marks_45 : decode cX6_marks 45 = .ok (.iadd, 1) := by decide +kernel
theorem dX6_marks_46 : decode cX6_marks 46 = .ok (.aload_n 0, 1) := by decide +kernel
theorem dX6_marks_47 : decode cX6_marks 47 = .ok (.iload_n 1, 1) := by decide +kernel
theorem dX6_marks_48 : decode cX6_marks 48 = .ok (.iload_n 2, 1) := by decide +kernel
theorem dX6_marks_49 : decode cX6_marks 49 = .ok (.invokevirtual 123, 3) := by decide +kernel
theorem dX6_marks_52 : decode cX6_marks 52 = .ok (.ifCond .ne 7, 3) := by decide +kernel
theorem dX6_marks_55 : decode cX6_marks 55 = .ok (.iconst 1, 1) := by decide +kernel
theorem dX6_marks_56 : decode cX6_marks 56 = .ok (.goto 4, 3) := by decide +kernel
theorem dX6_marks_59 : decode cX6_marks 59 = .ok (.iconst 0, 1) := by decide +kernel
theorem dX6_marks_60 : decode cX6_marks 60 = .ok (.bastore, 1) := by decide +kernel
theorem dX6_marks_61 : decode cX6_marks 61 = .ok (.iinc 2 1, 3) := by decide +kernel
theorem dX6_marks_64 : decode cX6_marks 64 = .ok (.goto (-39), 3) := by decide +kernel
theorem dX6_marks_67 : decode cX6_marks 67 = .ok (.iinc 1 1, 3) := by decide +kernel
theorem dX6_marks_70 : decode cX6_marks 70 = .ok (.goto (-55), 3) := by decide +kernel
theorem dX6_marks_73 : decode cX6_marks 73 = .ok (.return_, 1) := by decide +kernel
theorem dX6_covers_0 : decode cX6_covers 0 = .ok (.aload_n 0, 1) := by decide +kernel
theorem dX6_covers_1 : decode cX6_covers 1 = .ok (.invokevirtual 126, 3) := by decide +kernel
theorem dX6_covers_4 : decode cX6_covers 4 = .ok (.iconst 1, 1) := by decide +kernel
theorem dX6_covers_5 : decode cX6_covers 5 = .ok (.aload_n 0, 1) := by decide +kernel
theorem dX6_covers_6 : decode cX6_covers 6 = .ok (.getfield 84, 3) := by decide +kernel
theorem dX6_covers_9 : decode cX6_covers 9 = .ok (.ishl, 1) := by decide +kernel
theorem dX6_covers_10 : decode cX6_covers 10 = .ok (.istore_n 1, 1) := by decide +kernel
theorem dX6_covers_11 : decode cX6_covers 11 = .ok (.iconst 0, 1) := by decide +kernel
theorem dX6_covers_12 : decode cX6_covers 12 = .ok (.istore_n 2, 1) := by decide +kernel
theorem dX6_covers_13 : decode cX6_covers 13 = .ok (.iload_n 2, 1) := by decide +kernel
theorem dX6_covers_14 : decode cX6_covers 14 = .ok (.iload_n 1, 1) := by decide +kernel
theorem dX6_covers_15 : decode cX6_covers 15 = .ok (.if_icmp .ge 25, 3) := by decide +kernel
theorem dX6_covers_18 : decode cX6_covers 18 = .ok (.aload_n 0, 1) := by decide +kernel
theorem dX6_covers_19 : decode cX6_covers 19 = .ok (.getfield 57, 3) := by decide +kernel
theorem dX6_covers_22 : decode cX6_covers 22 = .ok (.sipush 512, 3) := by decide +kernel
theorem dX6_covers_25 : decode cX6_covers 25 = .ok (.aload_n 0, 1) := by decide +kernel
theorem dX6_covers_26 : decode cX6_covers 26 = .ok (.getfield 81, 3) := by decide +kernel
theorem dX6_covers_29 : decode cX6_covers 29 = .ok (.imul, 1) := by decide +kernel
theorem dX6_covers_30 : decode cX6_covers 30 = .ok (.iload_n 2, 1) := by decide +kernel
theorem dX6_covers_31 : decode cX6_covers 31 = .ok (.iadd, 1) := by decide +kernel
theorem dX6_covers_32 : decode cX6_covers 32 = .ok (.iconst 0, 1) := by decide +kernel
theorem dX6_covers_33 : decode cX6_covers 33 = .ok (.iastore, 1) := by decide +kernel
theorem dX6_covers_34 : decode cX6_covers 34 = .ok (.iinc 2 1, 3) := by decide +kernel
theorem dX6_covers_37 : decode cX6_covers 37 = .ok (.goto (-24), 3) := by decide +kernel
theorem dX6_covers_40 : decode cX6_covers 40 = .ok (.aload_n 0, 1) := by decide +kernel
theorem dX6_covers_41 : decode cX6_covers 41 = .ok (.getfield 81, 3) := by decide +kernel
theorem dX6_covers_44 : decode cX6_covers 44 = .ok (.iconst 1, 1) := by decide +kernel
theorem dX6_covers_45 : decode cX6_covers 45 = .ok (.isub, 1) := by decide +kernel
theorem dX6_covers_46 : decode cX6_covers 46 = .ok (.istore_n 2, 1) := by decide +kernel
theorem dX6_covers_47 : decode cX6_covers 47 = .ok (.iload_n 2, 1) := by decide +kernel
theorem dX6_covers_48 : decode cX6_covers 48 = .ok (.ifCond .lt 130, 3) := by decide +kernel
theorem dX6_covers_51 : decode cX6_covers 51 = .ok (.iconst 0, 1) := by decide +kernel
theorem dX6_covers_52 : decode cX6_covers 52 = .ok (.istore_n 3, 1) := by decide +kernel
theorem dX6_covers_53 : decode cX6_covers 53 = .ok (.iload_n 3, 1) := by decide +kernel
theorem dX6_covers_54 : decode cX6_covers 54 = .ok (.iload_n 1, 1) := by decide +kernel
theorem dX6_covers_55 : decode cX6_covers 55 = .ok (.if_icmp .ge 117, 3) := by decide +kernel
theorem dX6_covers_58 : decode cX6_covers 58 = .ok (.iconst 0, 1) := by decide +kernel
theorem dX6_covers_59 : decode cX6_covers 59 = .ok (.istore 4, 2) := by decide +kernel
theorem dX6_covers_61 : decode cX6_covers 61 = .ok (.iload_n 3, 1) := by decide +kernel
theorem dX6_covers_62 : decode cX6_covers 62 = .ok (.istore 5, 2) := by decide +kernel
theorem dX6_covers_64 : decode cX6_covers 64 = .ok (.iconst 1, 1) := by decide +kernel
theorem dX6_covers_65 : decode cX6_covers 65 = .ok (.istore 6, 2) := by decide +kernel
theorem dX6_covers_67 : decode cX6_covers 67 = .ok (.iload 6, 2) := by decide +kernel
theorem dX6_covers_69 : decode cX6_covers 69 = .ok (.ifCond .eq 83, 3) := by decide +kernel
theorem dX6_covers_72 : decode cX6_covers 72 = .ok (.aload_n 0, 1) := by decide +kernel
theorem dX6_covers_73 : decode cX6_covers 73 = .ok (.getfield 53, 3) := by decide +kernel
theorem dX6_covers_76 : decode cX6_covers 76 = .ok (.sipush 512, 3) := by decide +kernel
theorem dX6_covers_79 : decode cX6_covers 79 = .ok (.aload_n 0, 1) := by decide +kernel
theorem dX6_covers_80 : decode cX6_covers 80 = .ok (.getfield 60, 3) := by decide +kernel
theorem dX6_covers_83 : decode cX6_covers 83 = .ok (.iload_n 2, 1) := by decide +kernel
theorem dX6_covers_84 : decode cX6_covers 84 = .ok (.iaload, 1) := by decide +kernel
theorem dX6_covers_85 : decode cX6_covers 85 = .ok (.imul, 1) := by decide +kernel
theorem dX6_covers_86 : decode cX6_covers 86 = .ok (.iload 5, 2) := by decide +kernel
theorem dX6_covers_88 : decode cX6_covers 88 = .ok (.iadd, 1) := by decide +kernel
theorem dX6_covers_89 : decode cX6_covers 89 = .ok (.baload, 1) := by decide +kernel
theorem dX6_covers_90 : decode cX6_covers 90 = .ok (.ifCond .eq 39, 3) := by decide +kernel
theorem dX6_covers_93 : decode cX6_covers 93 = .ok (.iload 5, 2) := by decide +kernel
theorem dX6_covers_95 : decode cX6_covers 95 = .ok (.invokestatic 129, 3) := by decide +kernel
theorem dX6_covers_98 : decode cX6_covers 98 = .ok (.aload_n 0, 1) := by decide +kernel
