theorem dX5_denied_12 : decode cX5_denied 12 = .ok (.getfield 26, 3) := by decide +kernel
theorem dX5_denied_15 : decode cX5_denied 15 = .ok (.getfield 76, 3) := by decide +kernel
theorem dX5_denied_18 : decode cX5_denied 18 = .ok (.iload_n 1, 1) := by decide +kernel
theorem dX5_denied_19 : decode cX5_denied 19 = .ok (.aaload, 1) := by decide +kernel
theorem dX5_denied_20 : decode cX5_denied 20 = .ok (.iload_n 2, 1) := by decide +kernel
theorem dX5_denied_21 : decode cX5_denied 21 = .ok (.invokevirtual 106, 3) := by decide +kernel
theorem dX5_denied_24 : decode cX5_denied 24 = .ok (.ifCond .ne 5, 3) := by decide +kernel
theorem dX5_denied_27 : decode cX5_denied 27 = .ok (.iconst (-1), 1) := by decide +kernel
theorem dX5_denied_28 : decode cX5_denied 28 = .ok (.ireturn, 1) := by decide +kernel
theorem dX5_denied_29 : decode cX5_denied 29 = .ok (.aload_n 0, 1) := by decide +kernel
theorem dX5_denied_30 : decode cX5_denied 30 = .ok (.getfield 85, 3) := by decide +kernel
theorem dX5_denied_33 : decode cX5_denied 33 = .ok (.ifCond .eq 10, 3) := by decide +kernel
theorem dX5_denied_36 : decode cX5_denied 36 = .ok (.aload_n 0, 1) := by decide +kernel
theorem dX5_denied_37 : decode cX5_denied 37 = .ok (.getfield 150, 3) := by decide +kernel
theorem dX5_denied_40 : decode cX5_denied 40 = .ok (.ifCond .eq 6, 3) := by decide +kernel
theorem dX5_denied_43 : decode cX5_denied 43 = .ok (.bipush (-3), 2) := by decide +kernel
theorem dX5_denied_45 : decode cX5_denied 45 = .ok (.ireturn, 1) := by decide +kernel
theorem dX5_denied_46 : decode cX5_denied 46 = .ok (.aload_n 0, 1) := by decide +kernel
theorem dX5_denied_47 : decode cX5_denied 47 = .ok (.getfield 26, 3) := by decide +kernel
theorem dX5_denied_50 : decode cX5_denied 50 = .ok (.getfield 76, 3) := by decide +kernel
theorem dX5_denied_53 : decode cX5_denied 53 = .ok (.iload_n 1, 1) := by decide +kernel
theorem dX5_denied_54 : decode cX5_denied 54 = .ok (.aaload, 1) := by decide +kernel
theorem dX5_denied_55 : decode cX5_denied 55 = .ok (.astore_n 3, 1) := by decide +kernel
theorem dX5_denied_56 : decode cX5_denied 56 = .ok (.aload_n 3, 1) := by decide +kernel
theorem dX5_denied_57 : decode cX5_denied 57 = .ok (.aload_n 0, 1) := by decide +kernel
theorem dX5_denied_58 : decode cX5_denied 58 = .ok (.getfield 12, 3) := by decide +kernel
theorem dX5_denied_61 : decode cX5_denied 61 = .ok (.iload_n 2, 1) := by decide +kernel
theorem dX5_denied_62 : decode cX5_denied 62 = .ok (.aload_n 3, 1) := by decide +kernel
theorem dX5_denied_63 : decode cX5_denied 63 = .ok (.getfield 144, 3) := by decide +kernel
theorem dX5_denied_66 : decode cX5_denied 66 = .ok (.invokevirtual 109, 3) := by decide +kernel
theorem dX5_denied_69 : decode cX5_denied 69 = .ok (.ifCond .eq 5, 3) := by decide +kernel
theorem dX5_denied_72 : decode cX5_denied 72 = .ok (.iconst 0, 1) := by decide +kernel
theorem dX5_denied_73 : decode cX5_denied 73 = .ok (.ireturn, 1) := by decide +kernel
theorem dX5_denied_74 : decode cX5_denied 74 = .ok (.aload_n 0, 1) := by decide +kernel
theorem dX5_denied_75 : decode cX5_denied 75 = .ok (.iload_n 1, 1) := by decide +kernel
theorem dX5_denied_76 : decode cX5_denied 76 = .ok (.iload_n 2, 1) := by decide +kernel
theorem dX5_denied_77 : decode cX5_denied 77 = .ok (.aload_n 0, 1) := by decide +kernel
theorem dX5_denied_78 : decode cX5_denied 78 = .ok (.getfield 12, 3) := by decide +kernel
theorem dX5_denied_81 : decode cX5_denied 81 = .ok (.invokevirtual 116, 3) := by decide +kernel
theorem dX5_denied_84 : decode cX5_denied 84 = .ok (.invokevirtual 171, 3) := by decide +kernel
theorem dX5_denied_87 : decode cX5_denied 87 = .ok (.ifCond .ne 5, 3) := by decide +kernel
theorem dX5_denied_90 : decode cX5_denied 90 = .ok (.iconst 1, 1) := by decide +kernel
theorem dX5_denied_91 : decode cX5_denied 91 = .ok (.ireturn, 1) := by decide +kernel
theorem dX5_denied_92 : decode cX5_denied 92 = .ok (.aload_n 0, 1) := by decide +kernel
theorem dX5_denied_93 : decode cX5_denied 93 = .ok (.iload_n 1, 1) := by decide +kernel
theorem dX5_denied_94 : decode cX5_denied 94 = .ok (.iload_n 2, 1) := by decide +kernel
theorem dX5_denied_95 : decode cX5_denied 95 = .ok (.aload_n 3, 1) := by decide +kernel
theorem dX5_denied_96 : decode cX5_denied 96 = .ok (.getfield 137, 3) := by decide +kernel
theorem dX5_denied_99 : decode cX5_denied 99 = .ok (.invokevirtual 171, 3) := by decide +kernel
theorem dX5_denied_102 : decode cX5_denied 102 = .ok (.ifCond .eq 7, 3) := by decide +kernel
theorem dX5_denied_105 : decode cX5_denied 105 = .ok (.iconst 3, 1) := by decide +kernel
theorem dX5_denied_106 : decode cX5_denied 106 = .ok (.goto 4, 3) := by decide +kernel
theorem dX5_denied_109 : decode cX5_denied 109 = .ok (.iconst 2, 1) := by decide +kernel
theorem dX5_denied_110 : decode cX5_denied 110 = .ok (.ireturn, 1) := by decide +kernel
theorem dX5_ahead_0 : decode cX5_ahead 0 = .ok (.aload_n 0, 1) := by decide +kernel
theorem dX5_ahead_1 : decode cX5_ahead 1 = .ok (.getfield 26, 3) := by decide +kernel
theorem dX5_ahead_4 : decode cX5_ahead 4 = .ok (.iload_n 1, 1) := by decide +kernel
theorem dX5_ahead_5 : decode cX5_ahead 5 = .ok (.invokevirtual 72, 3) := by decide +kernel
theorem dX5_ahead_8 : decode cX5_ahead 8 = .ok (.ifCond .eq 14, 3) := by decide +kernel
theorem dX5_ahead_11 : decode cX5_ahead 11 = .ok (.aload_n 0, 1) := by decide +kernel
theorem dX5_ahead_12 : decode cX5_ahead 12 = .ok (.getfield 26, 3) := by decide +kernel
theorem dX5_ahead_15 : decode cX5_ahead 15 = .ok (.iload_n 2, 1) := by decide +kernel
theorem dX5_ahead_16 : decode cX5_ahead 16 = .ok (.invokevirtual 72, 3) := by decide +kernel
theorem dX5_ahead_19 : decode cX5_ahead 19 = .ok (.ifCond .ne 5, 3) := by decide +kernel
theorem dX5_ahead_22 : decode cX5_ahead 22 = .ok (.iconst (-1), 1) := by decide +kernel
theorem dX5_ahead_23 : decode cX5_ahead 23 = .ok (.ireturn, 1) := by decide +kernel
theorem dX5_ahead_24 : decode cX5_ahead 24 = .ok (.aload_n 0, 1) := by decide +kernel
theorem dX5_ahead_25 : decode cX5_ahead 25 = .ok (.getfield 35, 3) := by decide +kernel
theorem dX5_ahead_28 : decode cX5_ahead 28 = .ok (.invokevirtual 113, 3) := by decide +kernel
theorem dX5_ahead_31 : decode cX5_ahead 31 = .ok (.aload_n 0, 1) := by decide +kernel
theorem dX5_ahead_32 : decode cX5_ahead 32 = .ok (.getfield 12, 3) := by decide +kernel
theorem dX5_ahead_35 : decode cX5_ahead 35 = .ok (.invokevirtual 116, 3) := by decide +kernel
theorem dX5_ahead_38 : decode cX5_ahead 38 = .ok (.istore_n 3, 1) := by decide +kernel
theorem dX5_ahead_39 : decode cX5_ahead 39 = .ok (.aload_n 0, 1) := by decide +kernel
theorem dX5_ahead_40 : decode cX5_ahead 40 = .ok (.getfield 26, 3) := by decide +kernel
theorem dX5_ahead_43 : decode cX5_ahead 43 = .ok (.iconst 0, 1) := by decide +kernel
theorem dX5_ahead_44 : decode cX5_ahead 44 = .ok (.invokevirtual 124, 3) := by decide +kernel
theorem dX5_ahead_47 : decode cX5_ahead 47 = .ok (.istore 4, 2) := by decide +kernel
theorem dX5_ahead_49 : decode cX5_ahead 49 = .ok (.iconst 0, 1) := by decide +kernel
theorem dX5_ahead_50 : decode cX5_ahead 50 = .ok (.istore 5, 2) := by decide +kernel
theorem dX5_ahead_52 : decode cX5_ahead 52 = .ok (.iload 5, 2) := by decide +kernel
theorem dX5_ahead_54 : decode cX5_ahead 54 = .ok (.iload_n 2, 1) := by decide +kernel
theorem dX5_ahead_55 : decode cX5_ahead 55 = .ok (.if_icmp .ge 42, 3) := by decide +kernel
theorem dX5_ahead_58 : decode cX5_ahead 58 = .ok (.iload 5, 2) := by decide +kernel
theorem dX5_ahead_60 : decode cX5_ahead 60 = .ok (.iload_n 1, 1) := by decide +kernel
theorem dX5_ahead_61 : decode cX5_ahead 61 = .ok (.invokestatic 174, 3) := by decide +kernel
theorem dX5_ahead_64 : decode cX5_ahead 64 = .ok (.istore 6, 2) := by decide +kernel
theorem dX5_ahead_66 : decode cX5_ahead 66 = .ok (.iload 4, 2) := by decide +kernel
theorem dX5_ahead_68 : decode cX5_ahead 68 = .ok (.iconst 1, 1) := by decide +kernel
theorem dX5_ahead_69 : decode cX5_ahead 69 = .ok (.iload 6, 2) := by decide +kernel
theorem dX5_ahead_71 : decode cX5_ahead 71 = .ok (.ishl, 1) := by decide +kernel
theorem dX5_ahead_72 : decode cX5_ahead 72 = .ok (.iconst (-1), 1) := by decide +kernel
theorem dX5_ahead_73 : decode cX5_ahead 73 = .ok (.ixor, 1) := by decide +kernel
theorem dX5_ahead_74 : decode cX5_ahead 74 = .ok (.iand, 1) := by decide +kernel
theorem dX5_ahead_75 : decode cX5_ahead 75 = .ok (.istore 4, 2) := by decide +kernel
theorem dX5_ahead_77 : decode cX5_ahead 77 = .ok (.iload_n 3, 1) := by decide +kernel
theorem dX5_ahead_78 : decode cX5_ahead 78 = .ok (.aload_n 0, 1) := by decide +kernel
theorem dX5_ahead_79 : decode cX5_ahead 79 = .ok (.iload 6, 2) := by decide +kernel
theorem dX5_ahead_81 : decode cX5_ahead 81 = .ok (.iload_n 3, 1) := by decide +kernel
theorem dX5_ahead_82 : decode cX5_ahead 82 = .ok (.iload 4, 2) := by decide +kernel
theorem dX5_ahead_84 : decode cX5_ahead 84 = .ok (.invokevirtual 140, 3) := by decide +kernel
theorem dX5_ahead_87 : decode cX5_ahead 87 = .ok (.iconst (-1), 1) := by decide +kernel
theorem dX5_ahead_88 : decode cX5_ahead 88 = .ok (.ixor, 1) := by decide +kernel
theorem dX5_ahead_89 : decode cX5_ahead 89 = .ok (.iand, 1) := by decide +kernel
theorem dX5_ahead_90 : decode cX5_ahead 90 = .ok (.istore_n 3, 1) := by decide +kernel
theorem dX5_ahead_91 : decode cX5_ahead 91 = .ok (.iinc 5 1, 3) := by decide +kernel
theorem dX5_ahead_94 : decode cX5_ahead 94 = .ok (.goto (-42), 3) := by decide +kernel
theorem dX5_ahead_97 : decode cX5_ahead 97 = .ok (.aload_n 0, 1) := by decide +kernel
theorem dX5_ahead_98 : decode cX5_ahead 98 = .ok (.iload_n 1, 1) := by decide +kernel
theorem dX5_ahead_99 : decode cX5_ahead 99 = .ok (.iload_n 3, 1) := by decide +kernel
theorem dX5_ahead_100 : decode cX5_ahead 100 = .ok (.iload 4, 2) := by decide +kernel
theorem dX5_ahead_102 : decode cX5_ahead 102 = .ok (.iconst 1, 1) := by decide +kernel
theorem dX5_ahead_103 : decode cX5_ahead 103 = .ok (.iload_n 1, 1) := by decide +kernel
theorem dX5_ahead_104 : decode cX5_ahead 104 = .ok (.ishl, 1) := by decide +kernel
theorem dX5_ahead_105 : decode cX5_ahead 105 = .ok (.iconst (-1), 1) := by decide +kernel
theorem dX5_ahead_106 : decode cX5_ahead 106 = .ok (.ixor, 1) := by decide +kernel
theorem dX5_ahead_107 : decode cX5_ahead 107 = .ok (.iand, 1) := by decide +kernel
theorem dX5_ahead_108 : decode cX5_ahead 108 = .ok (.invokevirtual 140, 3) := by decide +kernel
theorem dX5_ahead_111 : decode cX5_ahead 111 = .ok (.ireturn, 1) := by decide +kernel
theorem dX5_swap_0 : decode cX5_swap 0 = .ok (.aload_n 0, 1) := by decide +kernel
theorem dX5_swap_1 : decode cX5_swap 1 = .ok (.getfield 26, 3) := by decide +kernel
theorem dX5_swap_4 : decode cX5_swap 4 = .ok (.iload_n 1, 1) := by decide +kernel
theorem dX5_swap_5 : decode cX5_swap 5 = .ok (.invokevirtual 72, 3) := by decide +kernel
theorem dX5_swap_8 : decode cX5_swap 8 = .ok (.ifCond .eq 31, 3) := by decide +kernel
theorem dX5_swap_11 : decode cX5_swap 11 = .ok (.aload_n 0, 1) := by decide +kernel
theorem dX5_swap_12 : decode cX5_swap 12 = .ok (.iload_n 2, 1) := by decide +kernel
theorem dX5_swap_13 : decode cX5_swap 13 = .ok (.invokevirtual 177, 3) := by decide +kernel
theorem dX5_swap_16 : decode cX5_swap 16 = .ok (.ifCond .eq 23, 3) := by decide +kernel
theorem dX5_swap_19 : decode cX5_swap 19 = .ok (.aload_n 0, 1) := by decide +kernel
theorem dX5_swap_20 : decode cX5_swap 20 = .ok (.getfield 26, 3) := by decide +kernel
theorem dX5_swap_23 : decode cX5_swap 23 = .ok (.iload_n 3, 1) := by decide +kernel
theorem dX5_swap_24 : decode cX5_swap 24 = .ok (.invokevirtual 72, 3) := by decide +kernel
theorem dX5_swap_27 : decode cX5_swap 27 = .ok (.ifCond .eq 12, 3) := by decide +kernel
theorem dX5_swap_30 : decode cX5_swap 30 = .ok (.aload_n 0, 1) := by decide +kernel
theorem dX5_swap_31 : decode cX5_swap 31 = .ok (.iload 4, 2) := by decide +kernel
theorem dX5_swap_33 : decode cX5_swap 33 = .ok (.invokevirtual 177, 3) := by decide +kernel
theorem dX5_swap_36 : decode cX5_swap 36 = .ok (.ifCond .ne 5, 3) := by decide +kernel
theorem dX5_swap_39 : decode cX5_swap 39 = .ok (.iconst (-1), 1) := by decide +kernel
theorem dX5_swap_40 : decode cX5_swap 40 = .ok (.ireturn, 1) := by decide +kernel
theorem dX5_swap_41 : decode cX5_swap 41 = .ok (.iload_n 1, 1) := by decide +kernel
theorem dX5_swap_42 : decode cX5_swap 42 = .ok (.iload_n 3, 1) := by decide +kernel
theorem dX5_swap_43 : decode cX5_swap 43 = .ok (.if_icmp .eq 14, 3) := by decide +kernel
theorem dX5_swap_46 : decode cX5_swap 46 = .ok (.iload_n 2, 1) := by decide +kernel
theorem dX5_swap_47 : decode cX5_swap 47 = .ok (.iconst (-1), 1) := by decide +kernel
theorem dX5_swap_48 : decode cX5_swap 48 = .ok (.if_icmp .ne 12, 3) := by decide +kernel
theorem dX5_swap_51 : decode cX5_swap 51 = .ok (.iload 4, 2) := by decide +kernel
theorem dX5_swap_53 : decode cX5_swap 53 = .ok (.iconst (-1), 1) := by decide +kernel
theorem dX5_swap_54 : decode cX5_swap 54 = .ok (.if_icmp .ne 6, 3) := by decide +kernel
theorem dX5_swap_57 : decode cX5_swap 57 = .ok (.bipush (-2), 2) := by decide +kernel
theorem dX5_swap_59 : decode cX5_swap 59 = .ok (.ireturn, 1) := by decide +kernel
theorem dX5_swap_60 : decode cX5_swap 60 = .ok (.aload_n 0, 1) := by decide +kernel
theorem dX5_swap_61 : decode cX5_swap 61 = .ok (.getfield 85, 3) := by decide +kernel
theorem dX5_swap_64 : decode cX5_swap 64 = .ok (.ifCond .ne 6, 3) := by decide +kernel
theorem dX5_swap_67 : decode cX5_swap 67 = .ok (.bipush (-3), 2) := by decide +kernel
theorem dX5_swap_69 : decode cX5_swap 69 = .ok (.ireturn, 1) := by decide +kernel
theorem dX5_swap_70 : decode cX5_swap 70 = .ok (.aload_n 0, 1) := by decide +kernel
theorem dX5_swap_71 : decode cX5_swap 71 = .ok (.getfield 26, 3) := by decide +kernel
theorem dX5_swap_74 : decode cX5_swap 74 = .ok (.getfield 76, 3) := by decide +kernel
theorem dX5_swap_77 : decode cX5_swap 77 = .ok (.iload_n 1, 1) := by decide +kernel
theorem dX5_swap_78 : decode cX5_swap 78 = .ok (.aaload, 1) := by decide +kernel
theorem dX5_swap_79 : decode cX5_swap 79 = .ok (.astore 5, 2) := by decide +kernel
theorem dX5_swap_81 : decode cX5_swap 81 = .ok (.aload_n 0, 1) := by decide +kernel
theorem dX5_swap_82 : decode cX5_swap 82 = .ok (.getfield 26, 3) := by decide +kernel
theorem dX5_swap_85 : decode cX5_swap 85 = .ok (.getfield 76, 3) := by decide +kernel
theorem dX5_swap_88 : decode cX5_swap 88 = .ok (.iload_n 3, 1) := by decide +kernel
theorem dX5_swap_89 : decode cX5_swap 89 = .ok (.aaload, 1) := by decide +kernel
theorem dX5_swap_90 : decode cX5_swap 90 = .ok (.astore 6, 2) := by decide +kernel
theorem dX5_swap_92 : decode cX5_swap 92 = .ok (.iload_n 2, 1) := by decide +kernel
theorem dX5_swap_93 : decode cX5_swap 93 = .ok (.invokestatic 180, 3) := by decide +kernel
theorem dX5_swap_96 : decode cX5_swap 96 = .ok (.istore 7, 2) := by decide +kernel
theorem dX5_swap_98 : decode cX5_swap 98 = .ok (.iload 4, 2) := by decide +kernel
theorem dX5_swap_100 : decode cX5_swap 100 = .ok (.invokestatic 180, 3) := by decide +kernel
theorem dX5_swap_103 : decode cX5_swap 103 = .ok (.istore 8, 2) := by decide +kernel
theorem dX5_swap_105 : decode cX5_swap 105 = .ok (.aload 5, 2) := by decide +kernel
theorem dX5_swap_107 : decode cX5_swap 107 = .ok (.getfield 144, 3) := by decide +kernel
theorem dX5_swap_110 : decode cX5_swap 110 = .ok (.iload 7, 2) := by decide +kernel
theorem dX5_swap_112 : decode cX5_swap 112 = .ok (.iand, 1) := by decide +kernel
theorem dX5_swap_113 : decode cX5_swap 113 = .ok (.iload 7, 2) := by decide +kernel
theorem dX5_swap_115 : decode cX5_swap 115 = .ok (.if_icmp .ne 16, 3) := by decide +kernel
theorem dX5_swap_118 : decode cX5_swap 118 = .ok (.aload 6, 2) := by decide +kernel
theorem dX5_swap_120 : decode cX5_swap 120 = .ok (.getfield 144, 3) := by decide +kernel
theorem dX5_swap_123 : decode cX5_swap 123 = .ok (.iload 8, 2) := by decide +kernel
theorem dX5_swap_125 : decode cX5_swap 125 = .ok (.iand, 1) := by decide +kernel
theorem dX5_swap_126 : decode cX5_swap 126 = .ok (.iload 8, 2) := by decide +kernel
theorem dX5_swap_128 : decode cX5_swap 128 = .ok (.if_icmp .eq 6, 3) := by decide +kernel
theorem dX5_swap_131 : decode cX5_swap 131 = .ok (.bipush (-3), 2) := by decide +kernel
theorem dX5_swap_133 : decode cX5_swap 133 = .ok (.ireturn, 1) := by decide +kernel
theorem dX5_swap_134 : decode cX5_swap 134 = .ok (.aload 5, 2) := by decide +kernel
theorem dX5_swap_136 : decode cX5_swap 136 = .ok (.getfield 144, 3) := by decide +kernel
theorem dX5_swap_139 : decode cX5_swap 139 = .ok (.iload 7, 2) := by decide +kernel
theorem dX5_swap_141 : decode cX5_swap 141 = .ok (.iconst (-1), 1) := by decide +kernel
theorem dX5_swap_142 : decode cX5_swap 142 = .ok (.ixor, 1) := by decide +kernel
theorem dX5_swap_143 : decode cX5_swap 143 = .ok (.iand, 1) := by decide +kernel
theorem dX5_swap_144 : decode cX5_swap 144 = .ok (.iload 8, 2) := by decide +kernel
theorem dX5_swap_146 : decode cX5_swap 146 = .ok (.ior, 1) := by decide +kernel
theorem dX5_swap_147 : decode cX5_swap 147 = .ok (.istore 9, 2) := by decide +kernel
theorem dX5_swap_149 : decode cX5_swap 149 = .ok (.aload 6, 2) := by decide +kernel
theorem dX5_swap_151 : decode cX5_swap 151 = .ok (.getfield 144, 3) := by decide +kernel
theorem dX5_swap_154 : decode cX5_swap 154 = .ok (.iload 8, 2) := by decide +kernel
theorem dX5_swap_156 : decode cX5_swap 156 = .ok (.iconst (-1), 1) := by decide +kernel
theorem dX5_swap_157 : decode cX5_swap 157 = .ok (.ixor, 1) := by decide +kernel
theorem dX5_swap_158 : decode cX5_swap 158 = .ok (.iand, 1) := by decide +kernel
theorem dX5_swap_159 : decode cX5_swap 159 = .ok (.iload 7, 2) := by decide +kernel
theorem dX5_swap_161 : decode cX5_swap 161 = .ok (.ior, 1) := by decide +kernel
theorem dX5_swap_162 : decode cX5_swap 162 = .ok (.istore 10, 2) := by decide +kernel
theorem dX5_swap_164 : decode cX5_swap 164 = .ok (.aload_n 0, 1) := by decide +kernel
theorem dX5_swap_165 : decode cX5_swap 165 = .ok (.getfield 35, 3) := by decide +kernel
theorem dX5_swap_168 : decode cX5_swap 168 = .ok (.iload_n 1, 1) := by decide +kernel
theorem dX5_swap_169 : decode cX5_swap 169 = .ok (.iload 9, 2) := by decide +kernel
theorem dX5_swap_171 : decode cX5_swap 171 = .ok (.invokevirtual 120, 3) := by decide +kernel
theorem dX5_swap_174 : decode cX5_swap 174 = .ok (.ifCond .eq 16, 3) := by decide +kernel
theorem dX5_swap_177 : decode cX5_swap 177 = .ok (.aload_n 0, 1) := by decide +kernel
theorem dX5_swap_178 : decode cX5_swap 178 = .ok (.getfield 35, 3) := by decide +kernel
theorem dX5_swap_181 : decode cX5_swap 181 = .ok (.iload_n 3, 1) := by decide +kernel
theorem dX5_swap_182 : decode cX5_swap 182 = .ok (.iload 10, 2) := by decide +kernel
theorem dX5_swap_184 : decode cX5_swap 184 = .ok (.invokevirtual 120, 3) := by decide +kernel
theorem dX5_swap_187 : decode cX5_swap 187 = .ok (.ifCond .ne 6, 3) := by decide +kernel
theorem dX5_swap_190 : decode cX5_swap 190 = .ok (.bipush (-3), 2) := by decide +kernel
theorem dX5_swap_192 : decode cX5_swap 192 = .ok (.ireturn, 1) := by decide +kernel
theorem dX5_swap_193 : decode cX5_swap 193 = .ok (.aload 5, 2) := by decide +kernel
theorem dX5_swap_195 : decode cX5_swap 195 = .ok (.aload_n 0, 1) := by decide +kernel
theorem dX5_swap_196 : decode cX5_swap 196 = .ok (.getfield 12, 3) := by decide +kernel
theorem dX5_swap_199 : decode cX5_swap 199 = .ok (.iload 9, 2) := by decide +kernel
theorem dX5_swap_201 : decode cX5_swap 201 = .ok (.invokevirtual 183, 3) := by decide +kernel
theorem dX5_swap_204 : decode cX5_swap 204 = .ok (.ifCond .ne 21, 3) := by decide +kernel
theorem dX5_swap_207 : decode cX5_swap 207 = .ok (.aload 6, 2) := by decide +kernel
theorem dX5_swap_209 : decode cX5_swap 209 = .ok (.aload_n 0, 1) := by decide +kernel
theorem dX5_swap_210 : decode cX5_swap 210 = .ok (.getfield 12, 3) := by decide +kernel
theorem dX5_swap_213 : decode cX5_swap 213 = .ok (.iload 10, 2) := by decide +kernel
theorem dX5_swap_215 : decode cX5_swap 215 = .ok (.invokevirtual 183, 3) := by decide +kernel
theorem dX5_swap_218 : decode cX5_swap 218 = .ok (.ifCond .ne 7, 3) := by decide +kernel
theorem dX5_swap_221 : decode cX5_swap 221 = .ok (.iconst 1, 1) := by decide +kernel
theorem dX5_swap_222 : decode cX5_swap 222 = .ok (.goto 4, 3) := by decide +kernel
theorem dX5_swap_225 : decode cX5_swap 225 = .ok (.iconst 0, 1) := by decide +kernel
theorem dX5_swap_226 : decode cX5_swap 226 = .ok (.istore 11, 2) := by decide +kernel
theorem dX5_swap_228 : decode cX5_swap 228 = .ok (.aload 5, 2) := by decide +kernel
theorem dX5_swap_230 : decode cX5_swap 230 = .ok (.iload 9, 2) := by decide +kernel
theorem dX5_swap_232 : decode cX5_swap 232 = .ok (.putfield 144, 3) := by decide +kernel
theorem dX5_swap_235 : decode cX5_swap 235 = .ok (.aload 6, 2) := by decide +kernel
theorem dX5_swap_237 : decode cX5_swap 237 = .ok (.iload 10, 2) := by decide +kernel
theorem dX5_swap_239 : decode cX5_swap 239 = .ok (.putfield 144, 3) := by decide +kernel
theorem dX5_swap_242 : decode cX5_swap 242 = .ok (.aload_n 0, 1) := by decide +kernel
theorem dX5_swap_243 : decode cX5_swap 243 = .ok (.iconst 1, 1) := by decide +kernel
theorem dX5_swap_244 : decode cX5_swap 244 = .ok (.putfield 150, 3) := by decide +kernel
theorem dX5_swap_247 : decode cX5_swap 247 = .ok (.iload 11, 2) := by decide +kernel
theorem dX5_swap_249 : decode cX5_swap 249 = .ok (.ifCond .eq 7, 3) := by decide +kernel
theorem dX5_swap_252 : decode cX5_swap 252 = .ok (.iconst 1, 1) := by decide +kernel
theorem dX5_swap_253 : decode cX5_swap 253 = .ok (.goto 4, 3) := by decide +kernel
theorem dX5_swap_256 : decode cX5_swap 256 = .ok (.iconst 0, 1) := by decide +kernel
theorem dX5_swap_257 : decode cX5_swap 257 = .ok (.ireturn, 1) := by decide +kernel
theorem dX5_sick_0 : decode cX5_sick 0 = .ok (.aload_n 0, 1) := by decide +kernel
theorem dX5_sick_1 : decode cX5_sick 1 = .ok (.getfield 26, 3) := by decide +kernel
theorem dX5_sick_4 : decode cX5_sick 4 = .ok (.iload_n 1, 1) := by decide +kernel
theorem dX5_sick_5 : decode cX5_sick 5 = .ok (.invokevirtual 72, 3) := by decide +kernel
theorem dX5_sick_8 : decode cX5_sick 8 = .ok (.ifCond .eq 10, 3) := by decide +kernel
theorem dX5_sick_11 : decode cX5_sick 11 = .ok (.iload_n 2, 1) := by decide +kernel
theorem dX5_sick_12 : decode cX5_sick 12 = .ok (.invokestatic 43, 3) := by decide +kernel
theorem dX5_sick_15 : decode cX5_sick 15 = .ok (.ifCond .ne 5, 3) := by decide +kernel
theorem dX5_sick_18 : decode cX5_sick 18 = .ok (.iconst (-1), 1) := by decide +kernel
theorem dX5_sick_19 : decode cX5_sick 19 = .ok (.ireturn, 1) := by decide +kernel
theorem dX5_sick_20 : decode cX5_sick 20 = .ok (.aload_n 0, 1) := by decide +kernel
theorem dX5_sick_21 : decode cX5_sick 21 = .ok (.getfield 85, 3) := by decide +kernel
theorem dX5_sick_24 : decode cX5_sick 24 = .ok (.ifCond .eq 18, 3) := by decide +kernel
theorem dX5_sick_27 : decode cX5_sick 27 = .ok (.aload_n 0, 1) := by decide +kernel
theorem dX5_sick_28 : decode cX5_sick 28 = .ok (.getfield 26, 3) := by decide +kernel
theorem dX5_sick_31 : decode cX5_sick 31 = .ok (.getfield 76, 3) := by decide +kernel
theorem dX5_sick_34 : decode cX5_sick 34 = .ok (.iload_n 1, 1) := by decide +kernel
theorem dX5_sick_35 : decode cX5_sick 35 = .ok (.aaload, 1) := by decide +kernel
theorem dX5_sick_36 : decode cX5_sick 36 = .ok (.getfield 147, 3) := by decide +kernel
theorem dX5_sick_39 : decode cX5_sick 39 = .ok (.ifCond .eq 6, 3) := by decide +kernel
theorem dX5_sick_42 : decode cX5_sick 42 = .ok (.bipush (-3), 2) := by decide +kernel
theorem dX5_sick_44 : decode cX5_sick 44 = .ok (.ireturn, 1) := by decide +kernel
theorem dX5_sick_45 : decode cX5_sick 45 = .ok (.aload_n 0, 1) := by decide +kernel
theorem dX5_sick_46 : decode cX5_sick 46 = .ok (.getfield 26, 3) := by decide +kernel
theorem dX5_sick_49 : decode cX5_sick 49 = .ok (.getfield 76, 3) := by decide +kernel
theorem dX5_sick_52 : decode cX5_sick 52 = .ok (.iload_n 1, 1) := by decide +kernel
theorem dX5_sick_53 : decode cX5_sick 53 = .ok (.aaload, 1) := by decide +kernel
theorem dX5_sick_54 : decode cX5_sick 54 = .ok (.astore_n 3, 1) := by decide +kernel
theorem dX5_sick_55 : decode cX5_sick 55 = .ok (.aload_n 3, 1) := by decide +kernel
theorem dX5_sick_56 : decode cX5_sick 56 = .ok (.getfield 144, 3) := by decide +kernel
theorem dX5_sick_59 : decode cX5_sick 59 = .ok (.aload_n 0, 1) := by decide +kernel
theorem dX5_sick_60 : decode cX5_sick 60 = .ok (.getfield 12, 3) := by decide +kernel
theorem dX5_sick_63 : decode cX5_sick 63 = .ok (.iload_n 2, 1) := by decide +kernel
theorem dX5_sick_64 : decode cX5_sick 64 = .ok (.bipush 14, 2) := by decide +kernel
theorem dX5_sick_66 : decode cX5_sick 66 = .ok (.invokevirtual 186, 3) := by decide +kernel
theorem dX5_sick_69 : decode cX5_sick 69 = .ok (.iand, 1) := by decide +kernel
theorem dX5_sick_70 : decode cX5_sick 70 = .ok (.istore 4, 2) := by decide +kernel
theorem dX5_sick_72 : decode cX5_sick 72 = .ok (.aload_n 3, 1) := by decide +kernel
theorem dX5_sick_73 : decode cX5_sick 73 = .ok (.iconst 1, 1) := by decide +kernel
theorem dX5_sick_74 : decode cX5_sick 74 = .ok (.putfield 147, 3) := by decide +kernel
theorem dX5_sick_77 : decode cX5_sick 77 = .ok (.aload_n 3, 1) := by decide +kernel
theorem dX5_sick_78 : decode cX5_sick 78 = .ok (.dup, 1) := by decide +kernel
theorem dX5_sick_79 : decode cX5_sick 79 = .ok (.getfield 144, 3) := by decide +kernel
theorem dX5_sick_82 : decode cX5_sick 82 = .ok (.iload 4, 2) := by decide +kernel
theorem dX5_sick_84 : decode cX5_sick 84 = .ok (.iconst (-1), 1) := by decide +kernel
theorem dX5_sick_85 : decode cX5_sick 85 = .ok (.ixor, 1) := by decide +kernel
theorem dX5_sick_86 : decode cX5_sick 86 = .ok (.iand, 1) := by decide +kernel
theorem dX5_sick_87 : decode cX5_sick 87 = .ok (.putfield 144, 3) := by decide +kernel
theorem dX5_sick_90 : decode cX5_sick 90 = .ok (.iconst 0, 1) := by decide +kernel
theorem dX5_sick_91 : decode cX5_sick 91 = .ok (.istore 5, 2) := by decide +kernel
theorem dX5_sick_93 : decode cX5_sick 93 = .ok (.iload 5, 2) := by decide +kernel
theorem dX5_sick_95 : decode cX5_sick 95 = .ok (.aload_n 0, 1) := by decide +kernel
theorem dX5_sick_96 : decode cX5_sick 96 = .ok (.getfield 12, 3) := by decide +kernel
theorem dX5_sick_99 : decode cX5_sick 99 = .ok (.getfield 47, 3) := by decide +kernel
theorem dX5_sick_102 : decode cX5_sick 102 = .ok (.if_icmp .ge 25, 3) := by decide +kernel
theorem dX5_sick_105 : decode cX5_sick 105 = .ok (.iload 5, 2) := by decide +kernel
theorem dX5_sick_107 : decode cX5_sick 107 = .ok (.iload 4, 2) := by decide +kernel
theorem dX5_sick_109 : decode cX5_sick 109 = .ok (.invokestatic 189, 3) := by decide +kernel
theorem dX5_sick_112 : decode cX5_sick 112 = .ok (.ifCond .eq 9, 3) := by decide +kernel
theorem dX5_sick_115 : decode cX5_sick 115 = .ok (.aload_n 0, 1) := by decide +kernel
theorem dX5_sick_116 : decode cX5_sick 116 = .ok (.iload 5, 2) := by decide +kernel
theorem dX5_sick_118 : decode cX5_sick 118 = .ok (.invokevirtual 192, 3) := by decide +kernel
theorem dX5_sick_121 : decode cX5_sick 121 = .ok (.iinc 5 1, 3) := by decide +kernel
theorem dX5_sick_124 : decode cX5_sick 124 = .ok (.goto (-31), 3) := by decide +kernel
theorem dX5_sick_127 : decode cX5_sick 127 = .ok (.aload_n 0, 1) := by decide +kernel
theorem dX5_sick_128 : decode cX5_sick 128 = .ok (.iconst 1, 1) := by decide +kernel
theorem dX5_sick_129 : decode cX5_sick 129 = .ok (.putfield 150, 3) := by decide +kernel
theorem dX5_sick_132 : decode cX5_sick 132 = .ok (.iload 4, 2) := by decide +kernel
theorem dX5_sick_134 : decode cX5_sick 134 = .ok (.invokestatic 153, 3) := by decide +kernel
theorem dX5_sick_137 : decode cX5_sick 137 = .ok (.ireturn, 1) := by decide +kernel
theorem dX5_who_0 : decode cX5_who 0 = .ok (.aload_n 0, 1) := by decide +kernel
theorem dX5_who_1 : decode cX5_who 1 = .ok (.getfield 12, 3) := by decide +kernel
theorem dX5_who_4 : decode cX5_who 4 = .ok (.iload_n 1, 1) := by decide +kernel
theorem dX5_who_5 : decode cX5_who 5 = .ok (.invokevirtual 75, 3) := by decide +kernel
theorem dX5_who_8 : decode cX5_who 8 = .ok (.ifCond .ne 5, 3) := by decide +kernel
theorem dX5_who_11 : decode cX5_who 11 = .ok (.iconst (-1), 1) := by decide +kernel
theorem dX5_who_12 : decode cX5_who 12 = .ok (.ireturn, 1) := by decide +kernel
theorem dX5_who_13 : decode cX5_who 13 = .ok (.aload_n 0, 1) := by decide +kernel
theorem dX5_who_14 : decode cX5_who 14 = .ok (.getfield 85, 3) := by decide +kernel
theorem dX5_who_17 : decode cX5_who 17 = .ok (.ifCond .ne 6, 3) := by decide +kernel
theorem dX5_who_20 : decode cX5_who 20 = .ok (.bipush (-3), 2) := by decide +kernel
theorem dX5_who_22 : decode cX5_who 22 = .ok (.ireturn, 1) := by decide +kernel
theorem dX5_who_23 : decode cX5_who 23 = .ok (.iconst 0, 1) := by decide +kernel
theorem dX5_who_24 : decode cX5_who 24 = .ok (.istore_n 2, 1) := by decide +kernel
theorem dX5_who_25 : decode cX5_who 25 = .ok (.iload_n 2, 1) := by decide +kernel
theorem dX5_who_26 : decode cX5_who 26 = .ok (.aload_n 0, 1) := by decide +kernel
theorem dX5_who_27 : decode cX5_who 27 = .ok (.getfield 26, 3) := by decide +kernel
theorem dX5_who_30 : decode cX5_who 30 = .ok (.getfield 58, 3) := by decide +kernel
theorem dX5_who_33 : decode cX5_who 33 = .ok (.if_icmp .ge 30, 3) := by decide +kernel
theorem dX5_who_36 : decode cX5_who 36 = .ok (.iload_n 1, 1) := by decide +kernel
theorem dX5_who_37 : decode cX5_who 37 = .ok (.aload_n 0, 1) := by decide +kernel
theorem dX5_who_38 : decode cX5_who 38 = .ok (.getfield 26, 3) := by decide +kernel
theorem dX5_who_41 : decode cX5_who 41 = .ok (.getfield 76, 3) := by decide +kernel
theorem dX5_who_44 : decode cX5_who 44 = .ok (.iload_n 2, 1) := by decide +kernel
theorem dX5_who_45 : decode cX5_who 45 = .ok (.aaload, 1) := by decide +kernel
theorem dX5_who_46 : decode cX5_who 46 = .ok (.getfield 144, 3) := by decide +kernel
theorem dX5_who_49 : decode cX5_who 49 = .ok (.invokestatic 189, 3) := by decide +kernel
theorem dX5_who_52 : decode cX5_who 52 = .ok (.ifCond .eq 5, 3) := by decide +kernel
theorem dX5_who_55 : decode cX5_who 55 = .ok (.iload_n 2, 1) := by decide +kernel
theorem dX5_who_56 : decode cX5_who 56 = .ok (.ireturn, 1) := by decide +kernel
theorem dX5_who_57 : decode cX5_who 57 = .ok (.iinc 2 1, 3) := by decide +kernel
theorem dX5_who_60 : decode cX5_who 60 = .ok (.goto (-35), 3) := by decide +kernel
theorem dX5_who_63 : decode cX5_who 63 = .ok (.iconst (-1), 1) := by decide +kernel
theorem dX5_who_64 : decode cX5_who 64 = .ok (.ireturn, 1) := by decide +kernel
theorem dX5_count_0 : decode cX5_count 0 = .ok (.iload_n 1, 1) := by decide +kernel
theorem dX5_count_1 : decode cX5_count 1 = .ok (.tableswitch 96 0 4 #[35, 43, 51, 59, 83], 35) := by decide +kernel
theorem dX5_count_36 : decode cX5_count 36 = .ok (.aload_n 0, 1) := by decide +kernel
theorem dX5_count_37 : decode cX5_count 37 = .ok (.getfield 12, 3) := by decide +kernel
theorem dX5_count_40 : decode cX5_count 40 = .ok (.getfield 47, 3) := by decide +kernel
theorem dX5_count_43 : decode cX5_count 43 = .ok (.ireturn, 1) := by decide +kernel
theorem dX5_count_44 : decode cX5_count 44 = .ok (.aload_n 0, 1) := by decide +kernel
theorem dX5_count_45 : decode cX5_count 45 = .ok (.getfield 26, 3) := by decide +kernel
theorem dX5_count_48 : decode cX5_count 48 = .ok (.getfield 58, 3) := by decide +kernel
theorem dX5_count_51 : decode cX5_count 51 = .ok (.ireturn, 1) := by decide +kernel
theorem dX5_count_52 : decode cX5_count 52 = .ok (.aload_n 0, 1) := by decide +kernel
theorem dX5_count_53 : decode cX5_count 53 = .ok (.getfield 26, 3) := by decide +kernel
theorem dX5_count_56 : decode cX5_count 56 = .ok (.invokevirtual 196, 3) := by decide +kernel
theorem dX5_count_59 : decode cX5_count 59 = .ok (.ireturn, 1) := by decide +kernel
theorem dX5_count_60 : decode cX5_count 60 = .ok (.aload_n 0, 1) := by decide +kernel
theorem dX5_count_61 : decode cX5_count 61 = .ok (.getfield 85, 3) := by decide +kernel
theorem dX5_count_64 : decode cX5_count 64 = .ok (.ifCond .eq 17, 3) := by decide +kernel
theorem dX5_count_67 : decode cX5_count 67 = .ok (.aload_n 0, 1) := by decide +kernel
theorem dX5_count_68 : decode cX5_count 68 = .ok (.getfield 26, 3) := by decide +kernel
theorem dX5_count_71 : decode cX5_count 71 = .ok (.aload_n 0, 1) := by decide +kernel
theorem dX5_count_72 : decode cX5_count 72 = .ok (.getfield 12, 3) := by decide +kernel
theorem dX5_count_75 : decode cX5_count 75 = .ok (.invokevirtual 199, 3) := by decide +kernel
theorem dX5_count_78 : decode cX5_count 78 = .ok (.goto 5, 3) := by decide +kernel
theorem dX5_count_81 : decode cX5_count 81 = .ok (.bipush (-3), 2) := by decide +kernel
theorem dX5_count_83 : decode cX5_count 83 = .ok (.ireturn, 1) := by decide +kernel
theorem dX5_count_84 : decode cX5_count 84 = .ok (.aload_n 0, 1) := by decide +kernel
theorem dX5_count_85 : decode cX5_count 85 = .ok (.getfield 85, 3) := by decide +kernel
theorem dX5_count_88 : decode cX5_count 88 = .ok (.ifCond .eq 7, 3) := by decide +kernel
theorem dX5_count_91 : decode cX5_count 91 = .ok (.iconst 1, 1) := by decide +kernel
theorem dX5_count_92 : decode cX5_count 92 = .ok (.goto 4, 3) := by decide +kernel
theorem dX5_count_95 : decode cX5_count 95 = .ok (.iconst 0, 1) := by decide +kernel
theorem dX5_count_96 : decode cX5_count 96 = .ok (.ireturn, 1) := by decide +kernel
theorem dX5_count_97 : decode cX5_count 97 = .ok (.iconst (-1), 1) := by decide +kernel
theorem dX5_count_98 : decode cX5_count 98 = .ok (.ireturn, 1) := by decide +kernel
theorem dX5_startAnew_0 : decode cX5_startAnew 0 = .ok (.aload_n 0, 1) := by decide +kernel
theorem dX5_startAnew_1 : decode cX5_startAnew 1 = .ok (.iconst 0, 1) := by decide +kernel
theorem dX5_startAnew_2 : decode cX5_startAnew 2 = .ok (.putfield 85, 3) := by decide +kernel
theorem dX5_startAnew_5 : decode cX5_startAnew 5 = .ok (.aload_n 0, 1) := by decide +kernel
theorem dX5_startAnew_6 : decode cX5_startAnew 6 = .ok (.getfield 35, 3) := by decide +kernel
theorem dX5_startAnew_9 : decode cX5_startAnew 9 = .ok (.invokevirtual 202, 3) := by decide +kernel
theorem dX5_startAnew_12 : decode cX5_startAnew 12 = .ok (.return_, 1) := by decide +kernel
theorem dX5_bestLine_0 : decode cX5_bestLine 0 = .ok (.aload_n 0, 1) := by decide +kernel
theorem dX5_bestLine_1 : decode cX5_bestLine 1 = .ok (.getfield 26, 3) := by decide +kernel
theorem dX5_bestLine_4 : decode cX5_bestLine 4 = .ok (.getfield 76, 3) := by decide +kernel
theorem dX5_bestLine_7 : decode cX5_bestLine 7 = .ok (.iload_n 1, 1) := by decide +kernel
theorem dX5_bestLine_8 : decode cX5_bestLine 8 = .ok (.aaload, 1) := by decide +kernel
theorem dX5_bestLine_9 : decode cX5_bestLine 9 = .ok (.astore 4, 2) := by decide +kernel
theorem dX5_bestLine_11 : decode cX5_bestLine 11 = .ok (.aload_n 0, 1) := by decide +kernel
theorem dX5_bestLine_12 : decode cX5_bestLine 12 = .ok (.getfield 35, 3) := by decide +kernel
theorem dX5_bestLine_15 : decode cX5_bestLine 15 = .ok (.iload_n 3, 1) := by decide +kernel
theorem dX5_bestLine_16 : decode cX5_bestLine 16 = .ok (.iconst 1, 1) := by decide +kernel
theorem dX5_bestLine_17 : decode cX5_bestLine 17 = .ok (.iload_n 1, 1) := by decide +kernel
theorem dX5_bestLine_18 : decode cX5_bestLine 18 = .ok (.ishl, 1) := by decide +kernel
theorem dX5_bestLine_19 : decode cX5_bestLine 19 = .ok (.ior, 1) := by decide +kernel
theorem dX5_bestLine_20 : decode cX5_bestLine 20 = .ok (.iload_n 2, 1) := by decide +kernel
theorem dX5_bestLine_21 : decode cX5_bestLine 21 = .ok (.invokevirtual 128, 3) := by decide +kernel
theorem dX5_bestLine_24 : decode cX5_bestLine 24 = .ok (.istore 5, 2) := by decide +kernel
theorem dX5_bestLine_26 : decode cX5_bestLine 26 = .ok (.iconst 0, 1) := by decide +kernel
theorem dX5_bestLine_27 : decode cX5_bestLine 27 = .ok (.istore 6, 2) := by decide +kernel
theorem dX5_bestLine_29 : decode cX5_bestLine 29 = .ok (.iconst (-1), 1) := by decide +kernel
theorem dX5_bestLine_30 : decode cX5_bestLine 30 = .ok (.istore 7, 2) := by decide +kernel
theorem dX5_bestLine_32 : decode cX5_bestLine 32 = .ok (.iconst 0, 1) := by decide +kernel
theorem dX5_bestLine_33 : decode cX5_bestLine 33 = .ok (.istore 8, 2) := by decide +kernel
theorem dX5_bestLine_35 : decode cX5_bestLine 35 = .ok (.iload 8, 2) := by decide +kernel
theorem dX5_bestLine_37 : decode cX5_bestLine 37 = .ok (.iload_n 2, 1) := by decide +kernel
theorem dX5_bestLine_38 : decode cX5_bestLine 38 = .ok (.if_icmp .gt 107, 3) := by decide +kernel
theorem dX5_bestLine_41 : decode cX5_bestLine 41 = .ok (.iload 8, 2) := by decide +kernel
theorem dX5_bestLine_43 : decode cX5_bestLine 43 = .ok (.iload_n 2, 1) := by decide +kernel
theorem dX5_bestLine_44 : decode cX5_bestLine 44 = .ok (.iconst (-1), 1) := by decide +kernel
theorem dX5_bestLine_45 : decode cX5_bestLine 45 = .ok (.ixor, 1) := by decide +kernel
theorem dX5_bestLine_46 : decode cX5_bestLine 46 = .ok (.iand, 1) := by decide +kernel
theorem dX5_bestLine_47 : decode cX5_bestLine 47 = .ok (.ifCond .ne 92, 3) := by decide +kernel
theorem dX5_bestLine_50 : decode cX5_bestLine 50 = .ok (.aload_n 0, 1) := by decide +kernel
theorem dX5_bestLine_51 : decode cX5_bestLine 51 = .ok (.getfield 35, 3) := by decide +kernel
theorem dX5_bestLine_54 : decode cX5_bestLine 54 = .ok (.iload_n 1, 1) := by decide +kernel
theorem dX5_bestLine_55 : decode cX5_bestLine 55 = .ok (.iload 8, 2) := by decide +kernel
theorem dX5_bestLine_57 : decode cX5_bestLine 57 = .ok (.invokevirtual 120, 3) := by decide +kernel
theorem dX5_bestLine_60 : decode cX5_bestLine 60 = .ok (.ifCond .ne 6, 3) := by decide +kernel
theorem dX5_bestLine_63 : decode cX5_bestLine 63 = .ok (.goto 76, 3) := by decide +kernel
theorem dX5_bestLine_66 : decode cX5_bestLine 66 = .ok (.iload 8, 2) := by decide +kernel
theorem dX5_bestLine_68 : decode cX5_bestLine 68 = .ok (.invokestatic 153, 3) := by decide +kernel
theorem dX5_bestLine_71 : decode cX5_bestLine 71 = .ok (.aload_n 0, 1) := by decide +kernel
theorem dX5_bestLine_72 : decode cX5_bestLine 72 = .ok (.getfield 35, 3) := by decide +kernel
theorem dX5_bestLine_75 : decode cX5_bestLine 75 = .ok (.iload_n 3, 1) := by decide +kernel
theorem dX5_bestLine_76 : decode cX5_bestLine 76 = .ok (.iload_n 2, 1) := by decide +kernel
theorem dX5_bestLine_77 : decode cX5_bestLine 77 = .ok (.iload 8, 2) := by decide +kernel
theorem dX5_bestLine_79 : decode cX5_bestLine 79 = .ok (.iconst (-1), 1) := by decide +kernel
theorem dX5_bestLine_80 : decode cX5_bestLine 80 = .ok (.ixor, 1) := by decide +kernel
theorem dX5_bestLine_81 : decode cX5_bestLine 81 = .ok (.iand, 1) := by decide +kernel
theorem dX5_bestLine_82 : decode cX5_bestLine 82 = .ok (.invokevirtual 128, 3) := by decide +kernel
theorem dX5_bestLine_85 : decode cX5_bestLine 85 = .ok (.iadd, 1) := by decide +kernel
theorem dX5_bestLine_86 : decode cX5_bestLine 86 = .ok (.iload 5, 2) := by decide +kernel
theorem dX5_bestLine_88 : decode cX5_bestLine 88 = .ok (.if_icmp .ge 6, 3) := by decide +kernel
theorem dX5_bestLine_91 : decode cX5_bestLine 91 = .ok (.goto 48, 3) := by decide +kernel
theorem dX5_bestLine_94 : decode cX5_bestLine 94 = .ok (.aload 4, 2) := by decide +kernel
theorem dX5_bestLine_96 : decode cX5_bestLine 96 = .ok (.aload_n 0, 1) := by decide +kernel
theorem dX5_bestLine_97 : decode cX5_bestLine 97 = .ok (.getfield 12, 3) := by decide +kernel
theorem dX5_bestLine_100 : decode cX5_bestLine 100 = .ok (.iload 8, 2) := by decide +kernel
theorem dX5_bestLine_102 : decode cX5_bestLine 102 = .ok (.invokevirtual 131, 3) := by decide +kernel
theorem dX5_bestLine_105 : decode cX5_bestLine 105 = .ok (.istore 9, 2) := by decide +kernel
theorem dX5_bestLine_107 : decode cX5_bestLine 107 = .ok (.iload 9, 2) := by decide +kernel
theorem dX5_bestLine_109 : decode cX5_bestLine 109 = .ok (.iload 7, 2) := by decide +kernel
theorem dX5_bestLine_111 : decode cX5_bestLine 111 = .ok (.if_icmp .gt 20, 3) := by decide +kernel
theorem dX5_bestLine_114 : decode cX5_bestLine 114 = .ok (.iload 9, 2) := by decide +kernel
theorem dX5_bestLine_116 : decode cX5_bestLine 116 = .ok (.iload 7, 2) := by decide +kernel
theorem dX5_bestLine_118 : decode cX5_bestLine 118 = .ok (.if_icmp .ne 21, 3) := by decide +kernel
theorem dX5_bestLine_121 : decode cX5_bestLine 121 = .ok (.iload 8, 2) := by decide +kernel
theorem dX5_bestLine_123 : decode cX5_bestLine 123 = .ok (.iload 6, 2) := by decide +kernel
theorem dX5_bestLine_125 : decode cX5_bestLine 125 = .ok (.invokestatic 134, 3) := by decide +kernel
theorem dX5_bestLine_128 : decode cX5_bestLine 128 = .ok (.ifCond .eq 11, 3) := by decide +kernel
theorem dX5_bestLine_131 : decode cX5_bestLine 131 = .ok (.iload 8, 2) := by decide +kernel
theorem dX5_bestLine_133 : decode cX5_bestLine 133 = .ok (.istore 6, 2) := by decide +kernel
theorem dX5_bestLine_135 : decode cX5_bestLine 135 = .ok (.iload 9, 2) := by decide +kernel
theorem dX5_bestLine_137 : decode cX5_bestLine 137 = .ok (.istore 7, 2) := by decide +kernel
theorem dX5_bestLine_139 : decode cX5_bestLine 139 = .ok (.iinc 8 1, 3) := by decide +kernel
theorem dX5_bestLine_142 : decode cX5_bestLine 142 = .ok (.goto (-107), 3) := by decide +kernel
theorem dX5_bestLine_145 : decode cX5_bestLine 145 = .ok (.iload 6, 2) := by decide +kernel
theorem dX5_bestLine_147 : decode cX5_bestLine 147 = .ok (.ireturn, 1) := by decide +kernel
theorem dX5_couldMeet_0 : decode cX5_couldMeet 0 = .ok (.aload_n 0, 1) := by decide +kernel
theorem dX5_couldMeet_1 : decode cX5_couldMeet 1 = .ok (.getfield 26, 3) := by decide +kernel
theorem dX5_couldMeet_4 : decode cX5_couldMeet 4 = .ok (.getfield 76, 3) := by decide +kernel
theorem dX5_couldMeet_7 : decode cX5_couldMeet 7 = .ok (.iload_n 1, 1) := by decide +kernel
theorem dX5_couldMeet_8 : decode cX5_couldMeet 8 = .ok (.aaload, 1) := by decide +kernel
theorem dX5_couldMeet_9 : decode cX5_couldMeet 9 = .ok (.astore 4, 2) := by decide +kernel
theorem dX5_couldMeet_11 : decode cX5_couldMeet 11 = .ok (.aload 4, 2) := by decide +kernel
theorem dX5_couldMeet_13 : decode cX5_couldMeet 13 = .ok (.getfield 80, 3) := by decide +kernel
theorem dX5_couldMeet_16 : decode cX5_couldMeet 16 = .ok (.iconst 1, 1) := by decide +kernel
theorem dX5_couldMeet_17 : decode cX5_couldMeet 17 = .ok (.isub, 1) := by decide +kernel
theorem dX5_couldMeet_18 : decode cX5_couldMeet 18 = .ok (.iload_n 2, 1) := by decide +kernel
theorem dX5_couldMeet_19 : decode cX5_couldMeet 19 = .ok (.isub, 1) := by decide +kernel
theorem dX5_couldMeet_20 : decode cX5_couldMeet 20 = .ok (.istore 5, 2) := by decide +kernel
theorem dX5_couldMeet_22 : decode cX5_couldMeet 22 = .ok (.aload 4, 2) := by decide +kernel
theorem dX5_couldMeet_24 : decode cX5_couldMeet 24 = .ok (.aload_n 0, 1) := by decide +kernel
theorem dX5_couldMeet_25 : decode cX5_couldMeet 25 = .ok (.getfield 12, 3) := by decide +kernel
theorem dX5_couldMeet_28 : decode cX5_couldMeet 28 = .ok (.aload 4, 2) := by decide +kernel
theorem dX5_couldMeet_30 : decode cX5_couldMeet 30 = .ok (.getfield 144, 3) := by decide +kernel
theorem dX5_couldMeet_33 : decode cX5_couldMeet 33 = .ok (.invokevirtual 131, 3) := by decide +kernel
theorem dX5_couldMeet_36 : decode cX5_couldMeet 36 = .ok (.iload 5, 2) := by decide +kernel
theorem dX5_couldMeet_38 : decode cX5_couldMeet 38 = .ok (.ishr, 1) := by decide +kernel
theorem dX5_couldMeet_39 : decode cX5_couldMeet 39 = .ok (.iconst 1, 1) := by decide +kernel
theorem dX5_couldMeet_40 : decode cX5_couldMeet 40 = .ok (.ior, 1) := by decide +kernel
theorem dX5_couldMeet_41 : decode cX5_couldMeet 41 = .ok (.istore 6, 2) := by decide +kernel
theorem dX5_couldMeet_43 : decode cX5_couldMeet 43 = .ok (.iconst 0, 1) := by decide +kernel
theorem dX5_couldMeet_44 : decode cX5_couldMeet 44 = .ok (.istore 7, 2) := by decide +kernel
theorem dX5_couldMeet_46 : decode cX5_couldMeet 46 = .ok (.iload 7, 2) := by decide +kernel
theorem dX5_couldMeet_48 : decode cX5_couldMeet 48 = .ok (.iload_n 3, 1) := by decide +kernel
theorem dX5_couldMeet_49 : decode cX5_couldMeet 49 = .ok (.if_icmp .gt 55, 3) := by decide +kernel
theorem dX5_couldMeet_52 : decode cX5_couldMeet 52 = .ok (.iload 7, 2) := by decide +kernel
theorem dX5_couldMeet_54 : decode cX5_couldMeet 54 = .ok (.iload_n 3, 1) := by decide +kernel
theorem dX5_couldMeet_55 : decode cX5_couldMeet 55 = .ok (.iconst (-1), 1) := by decide +kernel
theorem dX5_couldMeet_56 : decode cX5_couldMeet 56 = .ok (.ixor, 1) := by decide +kernel
theorem dX5_couldMeet_57 : decode cX5_couldMeet 57 = .ok (.iand, 1) := by decide +kernel
theorem dX5_couldMeet_58 : decode cX5_couldMeet 58 = .ok (.ifCond .ne 40, 3) := by decide +kernel
theorem dX5_couldMeet_61 : decode cX5_couldMeet 61 = .ok (.aload_n 0, 1) := by decide +kernel
theorem dX5_couldMeet_62 : decode cX5_couldMeet 62 = .ok (.getfield 35, 3) := by decide +kernel
theorem dX5_couldMeet_65 : decode cX5_couldMeet 65 = .ok (.iload_n 1, 1) := by decide +kernel
theorem dX5_couldMeet_66 : decode cX5_couldMeet 66 = .ok (.iload 7, 2) := by decide +kernel
theorem dX5_couldMeet_68 : decode cX5_couldMeet 68 = .ok (.invokevirtual 120, 3) := by decide +kernel
theorem dX5_couldMeet_71 : decode cX5_couldMeet 71 = .ok (.ifCond .eq 27, 3) := by decide +kernel
theorem dX5_couldMeet_74 : decode cX5_couldMeet 74 = .ok (.aload 4, 2) := by decide +kernel
theorem dX5_couldMeet_76 : decode cX5_couldMeet 76 = .ok (.aload_n 0, 1) := by decide +kernel
theorem dX5_couldMeet_77 : decode cX5_couldMeet 77 = .ok (.getfield 12, 3) := by decide +kernel
theorem dX5_couldMeet_80 : decode cX5_couldMeet 80 = .ok (.iload 7, 2) := by decide +kernel
theorem dX5_couldMeet_82 : decode cX5_couldMeet 82 = .ok (.invokevirtual 131, 3) := by decide +kernel
theorem dX5_couldMeet_85 : decode cX5_couldMeet 85 = .ok (.iload 5, 2) := by decide +kernel
theorem dX5_couldMeet_87 : decode cX5_couldMeet 87 = .ok (.ishr, 1) := by decide +kernel
theorem dX5_couldMeet_88 : decode cX5_couldMeet 88 = .ok (.iload 6, 2) := by decide +kernel
theorem dX5_couldMeet_90 : decode cX5_couldMeet 90 = .ok (.iand, 1) := by decide +kernel
theorem dX5_couldMeet_91 : decode cX5_couldMeet 91 = .ok (.iload 6, 2) := by decide +kernel
theorem dX5_couldMeet_93 : decode cX5_couldMeet 93 = .ok (.if_icmp .ne 5, 3) := by decide +kernel
theorem dX5_couldMeet_96 : decode cX5_couldMeet 96 = .ok (.iconst 1, 1) := by decide +kernel
theorem dX5_couldMeet_97 : decode cX5_couldMeet 97 = .ok (.ireturn, 1) := by decide +kernel
theorem dX5_couldMeet_98 : decode cX5_couldMeet 98 = .ok (.iinc 7 1, 3) := by decide +kernel
theorem dX5_couldMeet_101 : decode cX5_couldMeet 101 = .ok (.goto (-55), 3) := by decide +kernel
theorem dX5_couldMeet_104 : decode cX5_couldMeet 104 = .ok (.iconst 0, 1) := by decide +kernel
theorem dX5_couldMeet_105 : decode cX5_couldMeet 105 = .ok (.ireturn, 1) := by decide +kernel
theorem dX5_callIn_0 : decode cX5_callIn 0 = .ok (.iconst (-1), 1) := by decide +kernel
theorem dX5_callIn_1 : decode cX5_callIn 1 = .ok (.istore_n 2, 1) := by decide +kernel
theorem dX5_callIn_2 : decode cX5_callIn 2 = .ok (.iconst 0, 1) := by decide +kernel
theorem dX5_callIn_3 : decode cX5_callIn 3 = .ok (.istore_n 3, 1) := by decide +kernel
theorem dX5_callIn_4 : decode cX5_callIn 4 = .ok (.iconst 0, 1) := by decide +kernel
theorem dX5_callIn_5 : decode cX5_callIn 5 = .ok (.istore 4, 2) := by decide +kernel
theorem dX5_callIn_7 : decode cX5_callIn 7 = .ok (.iload 4, 2) := by decide +kernel
theorem dX5_callIn_9 : decode cX5_callIn 9 = .ok (.aload_n 0, 1) := by decide +kernel
theorem dX5_callIn_10 : decode cX5_callIn 10 = .ok (.getfield 26, 3) := by decide +kernel
theorem dX5_callIn_13 : decode cX5_callIn 13 = .ok (.getfield 58, 3) := by decide +kernel
theorem dX5_callIn_16 : decode cX5_callIn 16 = .ok (.if_icmp .ge 84, 3) := by decide +kernel
theorem dX5_callIn_19 : decode cX5_callIn 19 = .ok (.aload_n 0, 1) := by decide +kernel
theorem dX5_callIn_20 : decode cX5_callIn 20 = .ok (.getfield 26, 3) := by decide +kernel
theorem dX5_callIn_23 : decode cX5_callIn 23 = .ok (.getfield 76, 3) := by decide +kernel
theorem dX5_callIn_26 : decode cX5_callIn 26 = .ok (.iload 4, 2) := by decide +kernel
theorem dX5_callIn_28 : decode cX5_callIn 28 = .ok (.aaload, 1) := by decide +kernel
theorem dX5_callIn_29 : decode cX5_callIn 29 = .ok (.astore 5, 2) := by decide +kernel
theorem dX5_callIn_31 : decode cX5_callIn 31 = .ok (.aload 5, 2) := by decide +kernel
theorem dX5_callIn_33 : decode cX5_callIn 33 = .ok (.getfield 147, 3) := by decide +kernel
theorem dX5_callIn_36 : decode cX5_callIn 36 = .ok (.ifCond .ne 58, 3) := by decide +kernel
theorem dX5_callIn_39 : decode cX5_callIn 39 = .ok (.aload_n 0, 1) := by decide +kernel
theorem dX5_callIn_40 : decode cX5_callIn 40 = .ok (.getfield 35, 3) := by decide +kernel
theorem dX5_callIn_43 : decode cX5_callIn 43 = .ok (.iload 4, 2) := by decide +kernel
theorem dX5_callIn_45 : decode cX5_callIn 45 = .ok (.aload 5, 2) := by decide +kernel
theorem dX5_callIn_47 : decode cX5_callIn 47 = .ok (.getfield 144, 3) := by decide +kernel
theorem dX5_callIn_50 : decode cX5_callIn 50 = .ok (.iconst 1, 1) := by decide +kernel
theorem dX5_callIn_51 : decode cX5_callIn 51 = .ok (.iload_n 1, 1) := by decide +kernel
theorem dX5_callIn_52 : decode cX5_callIn 52 = .ok (.ishl, 1) := by decide +kernel
theorem dX5_callIn_53 : decode cX5_callIn 53 = .ok (.ior, 1) := by decide +kernel
theorem dX5_callIn_54 : decode cX5_callIn 54 = .ok (.invokevirtual 120, 3) := by decide +kernel
theorem dX5_callIn_57 : decode cX5_callIn 57 = .ok (.ifCond .ne 6, 3) := by decide +kernel
theorem dX5_callIn_60 : decode cX5_callIn 60 = .ok (.goto 34, 3) := by decide +kernel
theorem dX5_callIn_63 : decode cX5_callIn 63 = .ok (.aload_n 0, 1) := by decide +kernel
theorem dX5_callIn_64 : decode cX5_callIn 64 = .ok (.getfield 12, 3) := by decide +kernel
theorem dX5_callIn_67 : decode cX5_callIn 67 = .ok (.aload 5, 2) := by decide +kernel
theorem dX5_callIn_69 : decode cX5_callIn 69 = .ok (.getfield 144, 3) := by decide +kernel
theorem dX5_callIn_72 : decode cX5_callIn 72 = .ok (.invokevirtual 158, 3) := by decide +kernel
theorem dX5_callIn_75 : decode cX5_callIn 75 = .ok (.istore 6, 2) := by decide +kernel
theorem dX5_callIn_77 : decode cX5_callIn 77 = .ok (.iload_n 2, 1) := by decide +kernel
theorem dX5_callIn_78 : decode cX5_callIn 78 = .ok (.iconst (-1), 1) := by decide +kernel
theorem dX5_callIn_79 : decode cX5_callIn 79 = .ok (.if_icmp .eq 9, 3) := by decide +kernel
theorem dX5_callIn_82 : decode cX5_callIn 82 = .ok (.iload 6, 2) := by decide +kernel
theorem dX5_callIn_84 : decode cX5_callIn 84 = .ok (.iload_n 3, 1) := by decide +kernel
theorem dX5_callIn_85 : decode cX5_callIn 85 = .ok (.if_icmp .ge 9, 3) := by decide +kernel
theorem dX5_callIn_88 : decode cX5_callIn 88 = .ok (.iload 4, 2) := by decide +kernel
theorem dX5_callIn_90 : decode cX5_callIn 90 = .ok (.istore_n 2, 1) := by decide +kernel
theorem dX5_callIn_91 : decode cX5_callIn 91 = .ok (.iload 6, 2) := by decide +kernel
theorem dX5_callIn_93 : decode cX5_callIn 93 = .ok (.istore_n 3, 1) := by decide +kernel
theorem dX5_callIn_94 : decode cX5_callIn 94 = .ok (.iinc 4 1, 3) := by decide +kernel
theorem dX5_callIn_97 : decode cX5_callIn 97 = .ok (.goto (-90), 3) := by decide +kernel
theorem dX5_callIn_100 : decode cX5_callIn 100 = .ok (.iload_n 2, 1) := by decide +kernel
theorem dX5_callIn_101 : decode cX5_callIn 101 = .ok (.iconst (-1), 1) := by decide +kernel
theorem dX5_callIn_102 : decode cX5_callIn 102 = .ok (.if_icmp .eq 23, 3) := by decide +kernel
theorem dX5_callIn_105 : decode cX5_callIn 105 = .ok (.aload_n 0, 1) := by decide +kernel
theorem dX5_callIn_106 : decode cX5_callIn 106 = .ok (.getfield 26, 3) := by decide +kernel
theorem dX5_callIn_109 : decode cX5_callIn 109 = .ok (.getfield 76, 3) := by decide +kernel
theorem dX5_callIn_112 : decode cX5_callIn 112 = .ok (.iload_n 2, 1) := by decide +kernel
theorem dX5_callIn_113 : decode cX5_callIn 113 = .ok (.aaload, 1) := by decide +kernel
theorem dX5_callIn_114 : decode cX5_callIn 114 = .ok (.dup, 1) := by decide +kernel
theorem dX5_callIn_115 : decode cX5_callIn 115 = .ok (.getfield 144, 3) := by decide +kernel
theorem dX5_callIn_118 : decode cX5_callIn 118 = .ok (.iconst 1, 1) := by decide +kernel
theorem dX5_callIn_119 : decode cX5_callIn 119 = .ok (.iload_n 1, 1) := by decide +kernel
theorem dX5_callIn_120 : decode cX5_callIn 120 = .ok (.ishl, 1) := by decide +kernel
theorem dX5_callIn_121 : decode cX5_callIn 121 = .ok (.ior, 1) := by decide +kernel
theorem dX5_callIn_122 : decode cX5_callIn 122 = .ok (.putfield 144, 3) := by decide +kernel
theorem dX5_callIn_125 : decode cX5_callIn 125 = .ok (.return_, 1) := by decide +kernel
theorem dX5_otherAt_0 : decode cX5_otherAt 0 = .ok (.iload_n 0, 1) := by decide +kernel
theorem dX5_otherAt_1 : decode cX5_otherAt 1 = .ok (.iload_n 1, 1) := by decide +kernel
theorem dX5_otherAt_2 : decode cX5_otherAt 2 = .ok (.if_icmp .ge 7, 3) := by decide +kernel
theorem dX5_otherAt_5 : decode cX5_otherAt 5 = .ok (.iload_n 0, 1) := by decide +kernel
theorem dX5_otherAt_6 : decode cX5_otherAt 6 = .ok (.goto 6, 3) := by decide +kernel
theorem dX5_otherAt_9 : decode cX5_otherAt 9 = .ok (.iload_n 0, 1) := by decide +kernel
theorem dX5_otherAt_10 : decode cX5_otherAt 10 = .ok (.iconst 1, 1) := by decide +kernel
theorem dX5_otherAt_11 : decode cX5_otherAt 11 = .ok (.iadd, 1) := by decide +kernel
theorem dX5_otherAt_12 : decode cX5_otherAt 12 = .ok (.ireturn, 1) := by decide +kernel
theorem dX5_isDutyOrNo_0 : decode cX5_isDutyOrNo 0 = .ok (.iload_n 1, 1) := by decide +kernel
theorem dX5_isDutyOrNo_1 : decode cX5_isDutyOrNo 1 = .ok (.iconst (-1), 1) := by decide +kernel
theorem dX5_isDutyOrNo_2 : decode cX5_isDutyOrNo 2 = .ok (.if_icmp .eq 14, 3) := by decide +kernel
theorem dX5_isDutyOrNo_5 : decode cX5_isDutyOrNo 5 = .ok (.aload_n 0, 1) := by decide +kernel
theorem dX5_isDutyOrNo_6 : decode cX5_isDutyOrNo 6 = .ok (.getfield 12, 3) := by decide +kernel
theorem dX5_isDutyOrNo_9 : decode cX5_isDutyOrNo 9 = .ok (.iload_n 1, 1) := by decide +kernel
theorem dX5_isDutyOrNo_10 : decode cX5_isDutyOrNo 10 = .ok (.invokevirtual 75, 3) := by decide +kernel
theorem dX5_isDutyOrNo_13 : decode cX5_isDutyOrNo 13 = .ok (.ifCond .eq 7, 3) := by decide +kernel
theorem dX5_isDutyOrNo_16 : decode cX5_isDutyOrNo 16 = .ok (.iconst 1, 1) := by decide +kernel
theorem dX5_isDutyOrNo_17 : decode cX5_isDutyOrNo 17 = .ok (.goto 4, 3) := by decide +kernel
theorem dX5_isDutyOrNo_20 : decode cX5_isDutyOrNo 20 = .ok (.iconst 0, 1) := by decide +kernel
theorem dX5_isDutyOrNo_21 : decode cX5_isDutyOrNo 21 = .ok (.ireturn, 1) := by decide +kernel
theorem dX5_lineOf_0 : decode cX5_lineOf 0 = .ok (.iload_n 0, 1) := by decide +kernel
theorem dX5_lineOf_1 : decode cX5_lineOf 1 = .ok (.iconst (-1), 1) := by decide +kernel
theorem dX5_lineOf_2 : decode cX5_lineOf 2 = .ok (.if_icmp .ne 7, 3) := by decide +kernel
theorem dX5_lineOf_5 : decode cX5_lineOf 5 = .ok (.iconst 0, 1) := by decide +kernel
theorem dX5_lineOf_6 : decode cX5_lineOf 6 = .ok (.goto 6, 3) := by decide +kernel
theorem dX5_lineOf_9 : decode cX5_lineOf 9 = .ok (.iconst 1, 1) := by decide +kernel
theorem dX5_lineOf_10 : decode cX5_lineOf 10 = .ok (.iload_n 0, 1) := by decide +kernel
theorem dX5_lineOf_11 : decode cX5_lineOf 11 = .ok (.ishl, 1) := by decide +kernel
theorem dX5_lineOf_12 : decode cX5_lineOf 12 = .ok (.ireturn, 1) := by decide +kernel
theorem dX5_isAheadByDuties_0 : decode cX5_isAheadByDuties 0 = .ok (.iload_n 0, 1) := by decide +kernel
theorem dX5_isAheadByDuties_1 : decode cX5_isAheadByDuties 1 = .ok (.iload_n 1, 1) := by decide +kernel
theorem dX5_isAheadByDuties_2 : decode cX5_isAheadByDuties 2 = .ok (.ixor, 1) := by decide +kernel
theorem dX5_isAheadByDuties_3 : decode cX5_isAheadByDuties 3 = .ok (.invokestatic 205, 3) := by decide +kernel
theorem dX5_isAheadByDuties_6 : decode cX5_isAheadByDuties 6 = .ok (.iload_n 0, 1) := by decide +kernel
theorem dX5_isAheadByDuties_7 : decode cX5_isAheadByDuties 7 = .ok (.iand, 1) := by decide +kernel
theorem dX5_isAheadByDuties_8 : decode cX5_isAheadByDuties 8 = .ok (.ifCond .eq 7, 3) := by decide +kernel
theorem dX5_isAheadByDuties_11 : decode cX5_isAheadByDuties 11 = .ok (.iconst 1, 1) := by decide +kernel
theorem dX5_isAheadByDuties_12 : decode cX5_isAheadByDuties 12 = .ok (.goto 4, 3) := by decide +kernel
theorem dX5_isAheadByDuties_15 : decode cX5_isAheadByDuties 15 = .ok (.iconst 0, 1) := by decide +kernel
theorem dX5_isAheadByDuties_16 : decode cX5_isAheadByDuties 16 = .ok (.ireturn, 1) := by decide +kernel
theorem dX5_isIn_0 : decode cX5_isIn 0 = .ok (.iload_n 1, 1) := by decide +kernel
theorem dX5_isIn_1 : decode cX5_isIn 1 = .ok (.iload_n 0, 1) := by decide +kernel
theorem dX5_isIn_2 : decode cX5_isIn 2 = .ok (.ishr, 1) := by decide +kernel
theorem dX5_isIn_3 : decode cX5_isIn 3 = .ok (.iconst 1, 1) := by decide +kernel
theorem dX5_isIn_4 : decode cX5_isIn 4 = .ok (.iand, 1) := by decide +kernel
theorem dX5_isIn_5 : decode cX5_isIn 5 = .ok (.iconst 1, 1) := by decide +kernel
theorem dX5_isIn_6 : decode cX5_isIn 6 = .ok (.if_icmp .ne 7, 3) := by decide +kernel
theorem dX5_isIn_9 : decode cX5_isIn 9 = .ok (.iconst 1, 1) := by decide +kernel
theorem dX5_isIn_10 : decode cX5_isIn 10 = .ok (.goto 4, 3) := by decide +kernel
theorem dX5_isIn_13 : decode cX5_isIn 13 = .ok (.iconst 0, 1) := by decide +kernel
theorem dX5_isIn_14 : decode cX5_isIn 14 = .ok (.ireturn, 1) := by decide +kernel
theorem dX5_isDay_0 : decode cX5_isDay 0 = .ok (.iload_n 0, 1) := by decide +kernel
theorem dX5_isDay_1 : decode cX5_isDay 1 = .ok (.iconst 0, 1) := by decide +kernel
theorem dX5_isDay_2 : decode cX5_isDay 2 = .ok (.bipush 13, 2) := by decide +kernel
theorem dX5_isDay_4 : decode cX5_isDay 4 = .ok (.invokestatic 39, 3) := by decide +kernel
theorem dX5_isDay_7 : decode cX5_isDay 7 = .ok (.ireturn, 1) := by decide +kernel
theorem dX5_within_0 : decode cX5_within 0 = .ok (.iload_n 0, 1) := by decide +kernel
theorem dX5_within_1 : decode cX5_within 1 = .ok (.iload_n 1, 1) := by decide +kernel
theorem dX5_within_2 : decode cX5_within 2 = .ok (.if_icmp .lt 12, 3) := by decide +kernel
theorem dX5_within_5 : decode cX5_within 5 = .ok (.iload_n 0, 1) := by decide +kernel
theorem dX5_within_6 : decode cX5_within 6 = .ok (.iload_n 2, 1) := by decide +kernel
theorem dX5_within_7 : decode cX5_within 7 = .ok (.if_icmp .gt 7, 3) := by decide +kernel
theorem dX5_within_10 : decode cX5_within 10 = .ok (.iconst 1, 1) := by decide +kernel
theorem dX5_within_11 : decode cX5_within 11 = .ok (.goto 4, 3) := by decide +kernel
theorem dX5_within_14 : decode cX5_within 14 = .ok (.iconst 0, 1) := by decide +kernel
theorem dX5_within_15 : decode cX5_within 15 = .ok (.ireturn, 1) := by decide +kernel
theorem dX6_init_0 : decode cX6_init 0 = .ok (.aload_n 0, 1) := by decide +kernel
theorem dX6_init_1 : decode cX6_init 1 = .ok (.invokespecial 1, 3) := by decide +kernel
theorem dX6_init_4 : decode cX6_init 4 = .ok (.aload_n 0, 1) := by decide +kernel
theorem dX6_init_5 : decode cX6_init 5 = .ok (.bipush 9, 2) := by decide +kernel
theorem dX6_init_7 : decode cX6_init 7 = .ok (.newarray .int, 2) := by decide +kernel
theorem dX6_init_9 : decode cX6_init 9 = .ok (.putfield 9, 3) := by decide +kernel
theorem dX6_init_12 : decode cX6_init 12 = .ok (.aload_n 0, 1) := by decide +kernel
theorem dX6_init_13 : decode cX6_init 13 = .ok (.bipush 9, 2) := by decide +kernel
theorem dX6_init_15 : decode cX6_init 15 = .ok (.newarray .int, 2) := by decide +kernel
theorem dX6_init_17 : decode cX6_init 17 = .ok (.putfield 13, 3) := by decide +kernel
theorem dX6_init_20 : decode cX6_init 20 = .ok (.aload_n 0, 1) := by decide +kernel
theorem dX6_init_21 : decode cX6_init 21 = .ok (.bipush 9, 2) := by decide +kernel
theorem dX6_init_23 : decode cX6_init 23 = .ok (.newarray .int, 2) := by decide +kernel
theorem dX6_init_25 : decode cX6_init 25 = .ok (.putfield 16, 3) := by decide +kernel
theorem dX6_init_28 : decode cX6_init 28 = .ok (.aload_n 0, 1) := by decide +kernel
theorem dX6_init_29 : decode cX6_init 29 = .ok (.bipush 9, 2) := by decide +kernel
theorem dX6_init_31 : decode cX6_init 31 = .ok (.newarray .int, 2) := by decide +kernel
theorem dX6_init_33 : decode cX6_init 33 = .ok (.putfield 19, 3) := by decide +kernel
theorem dX6_init_36 : decode cX6_init 36 = .ok (.aload_n 0, 1) := by decide +kernel
theorem dX6_init_37 : decode cX6_init 37 = .ok (.bipush 9, 2) := by decide +kernel
theorem dX6_init_39 : decode cX6_init 39 = .ok (.newarray .int, 2) := by decide +kernel
theorem dX6_init_41 : decode cX6_init 41 = .ok (.putfield 22, 3) := by decide +kernel
theorem dX6_init_44 : decode cX6_init 44 = .ok (.aload_n 0, 1) := by decide +kernel
theorem dX6_init_45 : decode cX6_init 45 = .ok (.iconst 4, 1) := by decide +kernel
theorem dX6_init_46 : decode cX6_init 46 = .ok (.newarray .int, 2) := by decide +kernel
theorem dX6_init_48 : decode cX6_init 48 = .ok (.putfield 25, 3) := by decide +kernel
theorem dX6_init_51 : decode cX6_init 51 = .ok (.aload_n 0, 1) := by decide +kernel
theorem dX6_init_52 : decode cX6_init 52 = .ok (.iconst 4, 1) := by decide +kernel
theorem dX6_init_53 : decode cX6_init 53 = .ok (.newarray .int, 2) := by decide +kernel
theorem dX6_init_55 : decode cX6_init 55 = .ok (.putfield 28, 3) := by decide +kernel
theorem dX6_init_58 : decode cX6_init 58 = .ok (.aload_n 0, 1) := by decide +kernel
theorem dX6_init_59 : decode cX6_init 59 = .ok (.iconst 4, 1) := by decide +kernel
theorem dX6_init_60 : decode cX6_init 60 = .ok (.newarray .int, 2) := by decide +kernel
theorem dX6_init_62 : decode cX6_init 62 = .ok (.putfield 31, 3) := by decide +kernel
theorem dX6_init_65 : decode cX6_init 65 = .ok (.aload_n 0, 1) := by decide +kernel
theorem dX6_init_66 : decode cX6_init 66 = .ok (.bipush 20, 2) := by decide +kernel
theorem dX6_init_68 : decode cX6_init 68 = .ok (.newarray .int, 2) := by decide +kernel
theorem dX6_init_70 : decode cX6_init 70 = .ok (.putfield 34, 3) := by decide +kernel
theorem dX6_init_73 : decode cX6_init 73 = .ok (.aload_n 0, 1) := by decide +kernel
theorem dX6_init_74 : decode cX6_init 74 = .ok (.bipush 20, 2) := by decide +kernel
theorem dX6_init_76 : decode cX6_init 76 = .ok (.newarray .int, 2) := by decide +kernel
theorem dX6_init_78 : decode cX6_init 78 = .ok (.putfield 37, 3) := by decide +kernel
theorem dX6_init_81 : decode cX6_init 81 = .ok (.aload_n 0, 1) := by decide +kernel
theorem dX6_init_82 : decode cX6_init 82 = .ok (.iconst 1, 1) := by decide +kernel
theorem dX6_init_83 : decode cX6_init 83 = .ok (.putfield 40, 3) := by decide +kernel
theorem dX6_init_86 : decode cX6_init 86 = .ok (.aload_n 0, 1) := by decide +kernel
theorem dX6_init_87 : decode cX6_init 87 = .ok (.iconst 1, 1) := by decide +kernel
theorem dX6_init_88 : decode cX6_init 88 = .ok (.putfield 44, 3) := by decide +kernel
theorem dX6_init_91 : decode cX6_init 91 = .ok (.aload_n 0, 1) := by decide +kernel
theorem dX6_init_92 : decode cX6_init 92 = .ok (.iconst 5, 1) := by decide +kernel
theorem dX6_init_93 : decode cX6_init 93 = .ok (.putfield 47, 3) := by decide +kernel
theorem dX6_init_96 : decode cX6_init 96 = .ok (.aload_n 0, 1) := by decide +kernel
theorem dX6_init_97 : decode cX6_init 97 = .ok (.bipush 60, 2) := by decide +kernel
theorem dX6_init_99 : decode cX6_init 99 = .ok (.putfield 50, 3) := by decide +kernel
theorem dX6_init_102 : decode cX6_init 102 = .ok (.aload_n 0, 1) := by decide +kernel
theorem dX6_init_103 : decode cX6_init 103 = .ok (.sipush 2048, 3) := by decide +kernel
theorem dX6_init_106 : decode cX6_init 106 = .ok (.newarray .boolean, 2) := by decide +kernel
theorem dX6_init_108 : decode cX6_init 108 = .ok (.putfield 53, 3) := by decide +kernel
theorem dX6_init_111 : decode cX6_init 111 = .ok (.aload_n 0, 1) := by decide +kernel
theorem dX6_init_112 : decode cX6_init 112 = .ok (.sipush 2560, 3) := by decide +kernel
theorem dX6_init_115 : decode cX6_init 115 = .ok (.newarray .int, 2) := by decide +kernel
theorem dX6_init_117 : decode cX6_init 117 = .ok (.putfield 57, 3) := by decide +kernel
theorem dX6_init_120 : decode cX6_init 120 = .ok (.aload_n 0, 1) := by decide +kernel
theorem dX6_init_121 : decode cX6_init 121 = .ok (.iconst 4, 1) := by decide +kernel
theorem dX6_init_122 : decode cX6_init 122 = .ok (.newarray .int, 2) := by decide +kernel
theorem dX6_init_124 : decode cX6_init 124 = .ok (.putfield 60, 3) := by decide +kernel
theorem dX6_init_127 : decode cX6_init 127 = .ok (.aload_n 0, 1) := by decide +kernel
theorem dX6_init_128 : decode cX6_init 128 = .ok (.iconst 4, 1) := by decide +kernel
theorem dX6_init_129 : decode cX6_init 129 = .ok (.newarray .int, 2) := by decide +kernel
theorem dX6_init_131 : decode cX6_init 131 = .ok (.putfield 63, 3) := by decide +kernel
theorem dX6_init_134 : decode cX6_init 134 = .ok (.aload_n 0, 1) := by decide +kernel
theorem dX6_init_135 : decode cX6_init 135 = .ok (.iconst 4, 1) := by decide +kernel
theorem dX6_init_136 : decode cX6_init 136 = .ok (.newarray .int, 2) := by decide +kernel
theorem dX6_init_138 : decode cX6_init 138 = .ok (.putfield 66, 3) := by decide +kernel
theorem dX6_init_141 : decode cX6_init 141 = .ok (.aload_n 0, 1) := by decide +kernel
theorem dX6_init_142 : decode cX6_init 142 = .ok (.iconst 4, 1) := by decide +kernel
theorem dX6_init_143 : decode cX6_init 143 = .ok (.newarray .int, 2) := by decide +kernel
theorem dX6_init_145 : decode cX6_init 145 = .ok (.putfield 69, 3) := by decide +kernel
theorem dX6_init_148 : decode cX6_init 148 = .ok (.aload_n 0, 1) := by decide +kernel
theorem dX6_init_149 : decode cX6_init 149 = .ok (.iconst 4, 1) := by decide +kernel
theorem dX6_init_150 : decode cX6_init 150 = .ok (.newarray .int, 2) := by decide +kernel
theorem dX6_init_152 : decode cX6_init 152 = .ok (.putfield 72, 3) := by decide +kernel
theorem dX6_init_155 : decode cX6_init 155 = .ok (.aload_n 0, 1) := by decide +kernel
theorem dX6_init_156 : decode cX6_init 156 = .ok (.iconst 4, 1) := by decide +kernel
theorem dX6_init_157 : decode cX6_init 157 = .ok (.newarray .int, 2) := by decide +kernel
theorem dX6_init_159 : decode cX6_init 159 = .ok (.putfield 75, 3) := by decide +kernel
theorem dX6_init_162 : decode cX6_init 162 = .ok (.aload_n 0, 1) := by decide +kernel
theorem dX6_init_163 : decode cX6_init 163 = .ok (.iconst 4, 1) := by decide +kernel
theorem dX6_init_164 : decode cX6_init 164 = .ok (.newarray .boolean, 2) := by decide +kernel
theorem dX6_init_166 : decode cX6_init 166 = .ok (.putfield 78, 3) := by decide +kernel
theorem dX6_init_169 : decode cX6_init 169 = .ok (.return_, 1) := by decide +kernel
theorem dX6_isPerson_0 : decode cX6_isPerson 0 = .ok (.iload_n 1, 1) := by decide +kernel
theorem dX6_isPerson_1 : decode cX6_isPerson 1 = .ok (.ifCond .lt 15, 3) := by decide +kernel
theorem dX6_isPerson_4 : decode cX6_isPerson 4 = .ok (.iload_n 1, 1) := by decide +kernel
theorem dX6_isPerson_5 : decode cX6_isPerson 5 = .ok (.aload_n 0, 1) := by decide +kernel
theorem dX6_isPerson_6 : decode cX6_isPerson 6 = .ok (.getfield 81, 3) := by decide +kernel
theorem dX6_isPerson_9 : decode cX6_isPerson 9 = .ok (.if_icmp .ge 7, 3) := by decide +kernel
theorem dX6_isPerson_12 : decode cX6_isPerson 12 = .ok (.iconst 1, 1) := by decide +kernel
theorem dX6_isPerson_13 : decode cX6_isPerson 13 = .ok (.goto 4, 3) := by decide +kernel
theorem dX6_isPerson_16 : decode cX6_isPerson 16 = .ok (.iconst 0, 1) := by decide +kernel
theorem dX6_isPerson_17 : decode cX6_isPerson 17 = .ok (.ireturn, 1) := by decide +kernel
theorem dX6_isDuty_0 : decode cX6_isDuty 0 = .ok (.iload_n 1, 1) := by decide +kernel
theorem dX6_isDuty_1 : decode cX6_isDuty 1 = .ok (.ifCond .lt 15, 3) := by decide +kernel
theorem dX6_isDuty_4 : decode cX6_isDuty 4 = .ok (.iload_n 1, 1) := by decide +kernel
theorem dX6_isDuty_5 : decode cX6_isDuty 5 = .ok (.aload_n 0, 1) := by decide +kernel
theorem dX6_isDuty_6 : decode cX6_isDuty 6 = .ok (.getfield 84, 3) := by decide +kernel
theorem dX6_isDuty_9 : decode cX6_isDuty 9 = .ok (.if_icmp .ge 7, 3) := by decide +kernel
theorem dX6_isDuty_12 : decode cX6_isDuty 12 = .ok (.iconst 1, 1) := by decide +kernel
theorem dX6_isDuty_13 : decode cX6_isDuty 13 = .ok (.goto 4, 3) := by decide +kernel
theorem dX6_isDuty_16 : decode cX6_isDuty 16 = .ok (.iconst 0, 1) := by decide +kernel
theorem dX6_isDuty_17 : decode cX6_isDuty 17 = .ok (.ireturn, 1) := by decide +kernel
theorem dX6_isSet_0 : decode cX6_isSet 0 = .ok (.iload_n 1, 1) := by decide +kernel
theorem dX6_isSet_1 : decode cX6_isSet 1 = .ok (.ifCond .lt 17, 3) := by decide +kernel
theorem dX6_isSet_4 : decode cX6_isSet 4 = .ok (.iload_n 1, 1) := by decide +kernel
theorem dX6_isSet_5 : decode cX6_isSet 5 = .ok (.iconst 1, 1) := by decide +kernel
theorem dX6_isSet_6 : decode cX6_isSet 6 = .ok (.aload_n 0, 1) := by decide +kernel
theorem dX6_isSet_7 : decode cX6_isSet 7 = .ok (.getfield 84, 3) := by decide +kernel
theorem dX6_isSet_10 : decode cX6_isSet 10 = .ok (.ishl, 1) := by decide +kernel
theorem dX6_isSet_11 : decode cX6_isSet 11 = .ok (.if_icmp .ge 7, 3) := by decide +kernel
theorem dX6_isSet_14 : decode cX6_isSet 14 = .ok (.iconst 1, 1) := by decide +kernel
theorem dX6_isSet_15 : decode cX6_isSet 15 = .ok (.goto 4, 3) := by decide +kernel
theorem dX6_isSet_18 : decode cX6_isSet 18 = .ok (.iconst 0, 1) := by decide +kernel
theorem dX6_isSet_19 : decode cX6_isSet 19 = .ok (.ireturn, 1) := by decide +kernel
theorem dX6_has_0 : decode cX6_has 0 = .ok (.iload_n 0, 1) := by decide +kernel
theorem dX6_has_1 : decode cX6_has 1 = .ok (.iload_n 1, 1) := by decide +kernel
theorem dX6_has_2 : decode cX6_has 2 = .ok (.ishr, 1) := by decide +kernel
theorem dX6_has_3 : decode cX6_has 3 = .ok (.iconst 1, 1) := by decide +kernel
theorem dX6_has_4 : decode cX6_has 4 = .ok (.iand, 1) := by decide +kernel
theorem dX6_has_5 : decode cX6_has 5 = .ok (.iconst 1, 1) := by decide +kernel
theorem dX6_has_6 : decode cX6_has 6 = .ok (.if_icmp .ne 7, 3) := by decide +kernel
theorem dX6_has_9 : decode cX6_has 9 = .ok (.iconst 1, 1) := by decide +kernel
theorem dX6_has_10 : decode cX6_has 10 = .ok (.goto 4, 3) := by decide +kernel
theorem dX6_has_13 : decode cX6_has 13 = .ok (.iconst 0, 1) := by decide +kernel
theorem dX6_has_14 : decode cX6_has 14 = .ok (.ireturn, 1) := by decide +kernel
theorem dX6_size_0 : decode cX6_size 0 = .ok (.iconst 0, 1) := by decide +kernel
theorem dX6_size_1 : decode cX6_size 1 = .ok (.istore_n 1, 1) := by decide +kernel
theorem dX6_size_2 : decode cX6_size 2 = .ok (.iconst 0, 1) := by decide +kernel
