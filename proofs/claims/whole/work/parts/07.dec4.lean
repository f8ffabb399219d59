theorem dX6_covers_99 : decode cX6_covers 99 = .ok (.getfield 57, 3) := by decide +kernel
theorem dX6_covers_102 : decode cX6_covers 102 = .ok (.sipush 512, 3) := by decide +kernel
theorem dX6_covers_105 : decode cX6_covers 105 = .ok (.iload_n 2, 1) := by decide +kernel
theorem dX6_covers_106 : decode cX6_covers 106 = .ok (.iconst 1, 1) := by decide +kernel
theorem dX6_covers_107 : decode cX6_covers 107 = .ok (.iadd, 1) := by decide +kernel
theorem dX6_covers_108 : decode cX6_covers 108 = .ok (.imul, 1) := by decide +kernel
theorem dX6_covers_109 : decode cX6_covers 109 = .ok (.iload_n 3, 1) := by decide +kernel
theorem dX6_covers_110 : decode cX6_covers 110 = .ok (.iload 5, 2) := by decide +kernel
theorem dX6_covers_112 : decode cX6_covers 112 = .ok (.ixor, 1) := by decide +kernel
theorem dX6_covers_113 : decode cX6_covers 113 = .ok (.iadd, 1) := by decide +kernel
theorem dX6_covers_114 : decode cX6_covers 114 = .ok (.iaload, 1) := by decide +kernel
theorem dX6_covers_115 : decode cX6_covers 115 = .ok (.iadd, 1) := by decide +kernel
theorem dX6_covers_116 : decode cX6_covers 116 = .ok (.istore 7, 2) := by decide +kernel
theorem dX6_covers_118 : decode cX6_covers 118 = .ok (.iload 7, 2) := by decide +kernel
theorem dX6_covers_120 : decode cX6_covers 120 = .ok (.iload 4, 2) := by decide +kernel
theorem dX6_covers_122 : decode cX6_covers 122 = .ok (.if_icmp .le 7, 3) := by decide +kernel
theorem dX6_covers_125 : decode cX6_covers 125 = .ok (.iload 7, 2) := by decide +kernel
theorem dX6_covers_127 : decode cX6_covers 127 = .ok (.istore 4, 2) := by decide +kernel
theorem dX6_covers_129 : decode cX6_covers 129 = .ok (.iload 5, 2) := by decide +kernel
theorem dX6_covers_131 : decode cX6_covers 131 = .ok (.ifCond .le 7, 3) := by decide +kernel
theorem dX6_covers_134 : decode cX6_covers 134 = .ok (.iconst 1, 1) := by decide +kernel
theorem dX6_covers_135 : decode cX6_covers 135 = .ok (.goto 4, 3) := by decide +kernel
theorem dX6_covers_138 : decode cX6_covers 138 = .ok (.iconst 0, 1) := by decide +kernel
theorem dX6_covers_139 : decode cX6_covers 139 = .ok (.istore 6, 2) := by decide +kernel
theorem dX6_covers_141 : decode cX6_covers 141 = .ok (.iload 5, 2) := by decide +kernel
theorem dX6_covers_143 : decode cX6_covers 143 = .ok (.iconst 1, 1) := by decide +kernel
theorem dX6_covers_144 : decode cX6_covers 144 = .ok (.isub, 1) := by decide +kernel
theorem dX6_covers_145 : decode cX6_covers 145 = .ok (.iload_n 3, 1) := by decide +kernel
theorem dX6_covers_146 : decode cX6_covers 146 = .ok (.iand, 1) := by decide +kernel
theorem dX6_covers_147 : decode cX6_covers 147 = .ok (.istore 5, 2) := by decide +kernel
theorem dX6_covers_149 : decode cX6_covers 149 = .ok (.goto (-82), 3) := by decide +kernel
theorem dX6_covers_152 : decode cX6_covers 152 = .ok (.aload_n 0, 1) := by decide +kernel
theorem dX6_covers_153 : decode cX6_covers 153 = .ok (.getfield 57, 3) := by decide +kernel
theorem dX6_covers_156 : decode cX6_covers 156 = .ok (.sipush 512, 3) := by decide +kernel
theorem dX6_covers_159 : decode cX6_covers 159 = .ok (.iload_n 2, 1) := by decide +kernel
theorem dX6_covers_160 : decode cX6_covers 160 = .ok (.imul, 1) := by decide +kernel
theorem dX6_covers_161 : decode cX6_covers 161 = .ok (.iload_n 3, 1) := by decide +kernel
theorem dX6_covers_162 : decode cX6_covers 162 = .ok (.iadd, 1) := by decide +kernel
theorem dX6_covers_163 : decode cX6_covers 163 = .ok (.iload 4, 2) := by decide +kernel
theorem dX6_covers_165 : decode cX6_covers 165 = .ok (.iastore, 1) := by decide +kernel
theorem dX6_covers_166 : decode cX6_covers 166 = .ok (.iinc 3 1, 3) := by decide +kernel
theorem dX6_covers_169 : decode cX6_covers 169 = .ok (.goto (-116), 3) := by decide +kernel
theorem dX6_covers_172 : decode cX6_covers 172 = .ok (.iinc 2 (-1), 3) := by decide +kernel
theorem dX6_covers_175 : decode cX6_covers 175 = .ok (.goto (-128), 3) := by decide +kernel
theorem dX6_covers_178 : decode cX6_covers 178 = .ok (.return_, 1) := by decide +kernel
theorem dX6_gives_0 : decode cX6_gives 0 = .ok (.aload_n 0, 1) := by decide +kernel
theorem dX6_gives_1 : decode cX6_gives 1 = .ok (.invokevirtual 132, 3) := by decide +kernel
theorem dX6_gives_4 : decode cX6_gives 4 = .ok (.iconst 1, 1) := by decide +kernel
theorem dX6_gives_5 : decode cX6_gives 5 = .ok (.aload_n 0, 1) := by decide +kernel
theorem dX6_gives_6 : decode cX6_gives 6 = .ok (.getfield 84, 3) := by decide +kernel
theorem dX6_gives_9 : decode cX6_gives 9 = .ok (.ishl, 1) := by decide +kernel
theorem dX6_gives_10 : decode cX6_gives 10 = .ok (.iconst 1, 1) := by decide +kernel
theorem dX6_gives_11 : decode cX6_gives 11 = .ok (.isub, 1) := by decide +kernel
theorem dX6_gives_12 : decode cX6_gives 12 = .ok (.istore_n 1, 1) := by decide +kernel
theorem dX6_gives_13 : decode cX6_gives 13 = .ok (.iconst 0, 1) := by decide +kernel
theorem dX6_gives_14 : decode cX6_gives 14 = .ok (.istore_n 2, 1) := by decide +kernel
theorem dX6_gives_15 : decode cX6_gives 15 = .ok (.iload_n 2, 1) := by decide +kernel
theorem dX6_gives_16 : decode cX6_gives 16 = .ok (.aload_n 0, 1) := by decide +kernel
theorem dX6_gives_17 : decode cX6_gives 17 = .ok (.getfield 81, 3) := by decide +kernel
theorem dX6_gives_20 : decode cX6_gives 20 = .ok (.if_icmp .ge 149, 3) := by decide +kernel
theorem dX6_gives_23 : decode cX6_gives 23 = .ok (.aload_n 0, 1) := by decide +kernel
theorem dX6_gives_24 : decode cX6_gives 24 = .ok (.getfield 60, 3) := by decide +kernel
theorem dX6_gives_27 : decode cX6_gives 27 = .ok (.iload_n 2, 1) := by decide +kernel
theorem dX6_gives_28 : decode cX6_gives 28 = .ok (.iaload, 1) := by decide +kernel
theorem dX6_gives_29 : decode cX6_gives 29 = .ok (.istore_n 3, 1) := by decide +kernel
theorem dX6_gives_30 : decode cX6_gives 30 = .ok (.aload_n 0, 1) := by decide +kernel
theorem dX6_gives_31 : decode cX6_gives 31 = .ok (.getfield 69, 3) := by decide +kernel
theorem dX6_gives_34 : decode cX6_gives 34 = .ok (.iload_n 3, 1) := by decide +kernel
theorem dX6_gives_35 : decode cX6_gives 35 = .ok (.iload_n 1, 1) := by decide +kernel
theorem dX6_gives_36 : decode cX6_gives 36 = .ok (.iastore, 1) := by decide +kernel
theorem dX6_gives_37 : decode cX6_gives 37 = .ok (.iconst (-1), 1) := by decide +kernel
theorem dX6_gives_38 : decode cX6_gives 38 = .ok (.istore 4, 2) := by decide +kernel
theorem dX6_gives_40 : decode cX6_gives 40 = .ok (.iconst 0, 1) := by decide +kernel
theorem dX6_gives_41 : decode cX6_gives 41 = .ok (.istore 5, 2) := by decide +kernel
theorem dX6_gives_43 : decode cX6_gives 43 = .ok (.iload 5, 2) := by decide +kernel
theorem dX6_gives_45 : decode cX6_gives 45 = .ok (.iconst 1, 1) := by decide +kernel
theorem dX6_gives_46 : decode cX6_gives 46 = .ok (.aload_n 0, 1) := by decide +kernel
theorem dX6_gives_47 : decode cX6_gives 47 = .ok (.getfield 84, 3) := by decide +kernel
theorem dX6_gives_50 : decode cX6_gives 50 = .ok (.ishl, 1) := by decide +kernel
theorem dX6_gives_51 : decode cX6_gives 51 = .ok (.if_icmp .ge 99, 3) := by decide +kernel
theorem dX6_gives_54 : decode cX6_gives 54 = .ok (.iload 5, 2) := by decide +kernel
theorem dX6_gives_56 : decode cX6_gives 56 = .ok (.iload_n 1, 1) := by decide +kernel
theorem dX6_gives_57 : decode cX6_gives 57 = .ok (.iconst (-1), 1) := by decide +kernel
theorem dX6_gives_58 : decode cX6_gives 58 = .ok (.ixor, 1) := by decide +kernel
theorem dX6_gives_59 : decode cX6_gives 59 = .ok (.iand, 1) := by decide +kernel
theorem dX6_gives_60 : decode cX6_gives 60 = .ok (.ifCond .ne 84, 3) := by decide +kernel
theorem dX6_gives_63 : decode cX6_gives 63 = .ok (.aload_n 0, 1) := by decide +kernel
theorem dX6_gives_64 : decode cX6_gives 64 = .ok (.getfield 53, 3) := by decide +kernel
theorem dX6_gives_67 : decode cX6_gives 67 = .ok (.sipush 512, 3) := by decide +kernel
theorem dX6_gives_70 : decode cX6_gives 70 = .ok (.iload_n 3, 1) := by decide +kernel
theorem dX6_gives_71 : decode cX6_gives 71 = .ok (.imul, 1) := by decide +kernel
theorem dX6_gives_72 : decode cX6_gives 72 = .ok (.iload 5, 2) := by decide +kernel
theorem dX6_gives_74 : decode cX6_gives 74 = .ok (.iadd, 1) := by decide +kernel
theorem dX6_gives_75 : decode cX6_gives 75 = .ok (.baload, 1) := by decide +kernel
theorem dX6_gives_76 : decode cX6_gives 76 = .ok (.ifCond .ne 6, 3) := by decide +kernel
theorem dX6_gives_79 : decode cX6_gives 79 = .ok (.goto 65, 3) := by decide +kernel
theorem dX6_gives_82 : decode cX6_gives 82 = .ok (.iload 5, 2) := by decide +kernel
theorem dX6_gives_84 : decode cX6_gives 84 = .ok (.invokestatic 129, 3) := by decide +kernel
theorem dX6_gives_87 : decode cX6_gives 87 = .ok (.aload_n 0, 1) := by decide +kernel
theorem dX6_gives_88 : decode cX6_gives 88 = .ok (.getfield 57, 3) := by decide +kernel
theorem dX6_gives_91 : decode cX6_gives 91 = .ok (.sipush 512, 3) := by decide +kernel
theorem dX6_gives_94 : decode cX6_gives 94 = .ok (.iload_n 2, 1) := by decide +kernel
theorem dX6_gives_95 : decode cX6_gives 95 = .ok (.iconst 1, 1) := by decide +kernel
theorem dX6_gives_96 : decode cX6_gives 96 = .ok (.iadd, 1) := by decide +kernel
theorem dX6_gives_97 : decode cX6_gives 97 = .ok (.imul, 1) := by decide +kernel
theorem dX6_gives_98 : decode cX6_gives 98 = .ok (.iload_n 1, 1) := by decide +kernel
theorem dX6_gives_99 : decode cX6_gives 99 = .ok (.iload 5, 2) := by decide +kernel
theorem dX6_gives_101 : decode cX6_gives 101 = .ok (.ixor, 1) := by decide +kernel
theorem dX6_gives_102 : decode cX6_gives 102 = .ok (.iadd, 1) := by decide +kernel
theorem dX6_gives_103 : decode cX6_gives 103 = .ok (.iaload, 1) := by decide +kernel
theorem dX6_gives_104 : decode cX6_gives 104 = .ok (.iadd, 1) := by decide +kernel
theorem dX6_gives_105 : decode cX6_gives 105 = .ok (.aload_n 0, 1) := by decide +kernel
theorem dX6_gives_106 : decode cX6_gives 106 = .ok (.getfield 57, 3) := by decide +kernel
theorem dX6_gives_109 : decode cX6_gives 109 = .ok (.sipush 512, 3) := by decide +kernel
theorem dX6_gives_112 : decode cX6_gives 112 = .ok (.iload_n 2, 1) := by decide +kernel
theorem dX6_gives_113 : decode cX6_gives 113 = .ok (.imul, 1) := by decide +kernel
theorem dX6_gives_114 : decode cX6_gives 114 = .ok (.iload_n 1, 1) := by decide +kernel
theorem dX6_gives_115 : decode cX6_gives 115 = .ok (.iadd, 1) := by decide +kernel
theorem dX6_gives_116 : decode cX6_gives 116 = .ok (.iaload, 1) := by decide +kernel
theorem dX6_gives_117 : decode cX6_gives 117 = .ok (.if_icmp .ge 6, 3) := by decide +kernel
theorem dX6_gives_120 : decode cX6_gives 120 = .ok (.goto 24, 3) := by decide +kernel
theorem dX6_gives_123 : decode cX6_gives 123 = .ok (.iload 4, 2) := by decide +kernel
theorem dX6_gives_125 : decode cX6_gives 125 = .ok (.ifCond .lt 15, 3) := by decide +kernel
theorem dX6_gives_128 : decode cX6_gives 128 = .ok (.aload_n 0, 1) := by decide +kernel
theorem dX6_gives_129 : decode cX6_gives 129 = .ok (.iload_n 3, 1) := by decide +kernel
theorem dX6_gives_130 : decode cX6_gives 130 = .ok (.iload 5, 2) := by decide +kernel
theorem dX6_gives_132 : decode cX6_gives 132 = .ok (.iload 4, 2) := by decide +kernel
theorem dX6_gives_134 : decode cX6_gives 134 = .ok (.invokevirtual 135, 3) := by decide +kernel
theorem dX6_gives_137 : decode cX6_gives 137 = .ok (.ifCond .le 7, 3) := by decide +kernel
theorem dX6_gives_140 : decode cX6_gives 140 = .ok (.iload 5, 2) := by decide +kernel
theorem dX6_gives_142 : decode cX6_gives 142 = .ok (.istore 4, 2) := by decide +kernel
theorem dX6_gives_144 : decode cX6_gives 144 = .ok (.iinc 5 1, 3) := by decide +kernel
theorem dX6_gives_147 : decode cX6_gives 147 = .ok (.goto (-104), 3) := by decide +kernel
theorem dX6_gives_150 : decode cX6_gives 150 = .ok (.aload_n 0, 1) := by decide +kernel
theorem dX6_gives_151 : decode cX6_gives 151 = .ok (.getfield 66, 3) := by decide +kernel
theorem dX6_gives_154 : decode cX6_gives 154 = .ok (.iload_n 3, 1) := by decide +kernel
theorem dX6_gives_155 : decode cX6_gives 155 = .ok (.iload 4, 2) := by decide +kernel
theorem dX6_gives_157 : decode cX6_gives 157 = .ok (.iastore, 1) := by decide +kernel
theorem dX6_gives_158 : decode cX6_gives 158 = .ok (.iload_n 1, 1) := by decide +kernel
theorem dX6_gives_159 : decode cX6_gives 159 = .ok (.iload 4, 2) := by decide +kernel
theorem dX6_gives_161 : decode cX6_gives 161 = .ok (.ixor, 1) := by decide +kernel
theorem dX6_gives_162 : decode cX6_gives 162 = .ok (.istore_n 1, 1) := by decide +kernel
theorem dX6_gives_163 : decode cX6_gives 163 = .ok (.iinc 2 1, 3) := by decide +kernel
theorem dX6_gives_166 : decode cX6_gives 166 = .ok (.goto (-151), 3) := by decide +kernel
theorem dX6_gives_169 : decode cX6_gives 169 = .ok (.return_, 1) := by decide +kernel
theorem dX6_byNumbers_0 : decode cX6_byNumbers 0 = .ok (.iconst 0, 1) := by decide +kernel
theorem dX6_byNumbers_1 : decode cX6_byNumbers 1 = .ok (.istore_n 1, 1) := by decide +kernel
theorem dX6_byNumbers_2 : decode cX6_byNumbers 2 = .ok (.iload_n 1, 1) := by decide +kernel
theorem dX6_byNumbers_3 : decode cX6_byNumbers 3 = .ok (.aload_n 0, 1) := by decide +kernel
theorem dX6_byNumbers_4 : decode cX6_byNumbers 4 = .ok (.getfield 81, 3) := by decide +kernel
theorem dX6_byNumbers_7 : decode cX6_byNumbers 7 = .ok (.if_icmp .ge 16, 3) := by decide +kernel
theorem dX6_byNumbers_10 : decode cX6_byNumbers 10 = .ok (.aload_n 0, 1) := by decide +kernel
theorem dX6_byNumbers_11 : decode cX6_byNumbers 11 = .ok (.getfield 60, 3) := by decide +kernel
theorem dX6_byNumbers_14 : decode cX6_byNumbers 14 = .ok (.iload_n 1, 1) := by decide +kernel
theorem dX6_byNumbers_15 : decode cX6_byNumbers 15 = .ok (.iload_n 1, 1) := by decide +kernel
theorem dX6_byNumbers_16 : decode cX6_byNumbers 16 = .ok (.iastore, 1) := by decide +kernel
theorem dX6_byNumbers_17 : decode cX6_byNumbers 17 = .ok (.iinc 1 1, 3) := by decide +kernel
theorem dX6_byNumbers_20 : decode cX6_byNumbers 20 = .ok (.goto (-18), 3) := by decide +kernel
theorem dX6_byNumbers_23 : decode cX6_byNumbers 23 = .ok (.return_, 1) := by decide +kernel
theorem dX6_why_0 : decode cX6_why 0 = .ok (.aload_n 0, 1) := by decide +kernel
theorem dX6_why_1 : decode cX6_why 1 = .ok (.iload_n 1, 1) := by decide +kernel
theorem dX6_why_2 : decode cX6_why 2 = .ok (.invokevirtual 101, 3) := by decide +kernel
theorem dX6_why_5 : decode cX6_why 5 = .ok (.ifCond .ne 5, 3) := by decide +kernel
theorem dX6_why_8 : decode cX6_why 8 = .ok (.iconst (-1), 1) := by decide +kernel
theorem dX6_why_9 : decode cX6_why 9 = .ok (.ireturn, 1) := by decide +kernel
theorem dX6_why_10 : decode cX6_why 10 = .ok (.aload_n 0, 1) := by decide +kernel
theorem dX6_why_11 : decode cX6_why 11 = .ok (.iload_n 2, 1) := by decide +kernel
theorem dX6_why_12 : decode cX6_why 12 = .ok (.invokevirtual 139, 3) := by decide +kernel
theorem dX6_why_15 : decode cX6_why 15 = .ok (.ifCond .eq 12, 3) := by decide +kernel
theorem dX6_why_18 : decode cX6_why 18 = .ok (.aload_n 0, 1) := by decide +kernel
theorem dX6_why_19 : decode cX6_why 19 = .ok (.iload_n 1, 1) := by decide +kernel
theorem dX6_why_20 : decode cX6_why 20 = .ok (.iload_n 2, 1) := by decide +kernel
theorem dX6_why_21 : decode cX6_why 21 = .ok (.invokevirtual 123, 3) := by decide +kernel
theorem dX6_why_24 : decode cX6_why 24 = .ok (.goto 5, 3) := by decide +kernel
theorem dX6_why_27 : decode cX6_why 27 = .ok (.bipush (-2), 2) := by decide +kernel
theorem dX6_why_29 : decode cX6_why 29 = .ok (.ireturn, 1) := by decide +kernel
theorem dX6_meets_0 : decode cX6_meets 0 = .ok (.aload_n 0, 1) := by decide +kernel
theorem dX6_meets_1 : decode cX6_meets 1 = .ok (.iload_n 1, 1) := by decide +kernel
theorem dX6_meets_2 : decode cX6_meets 2 = .ok (.invokevirtual 101, 3) := by decide +kernel
theorem dX6_meets_5 : decode cX6_meets 5 = .ok (.ifCond .eq 17, 3) := by decide +kernel
theorem dX6_meets_8 : decode cX6_meets 8 = .ok (.iload_n 2, 1) := by decide +kernel
theorem dX6_meets_9 : decode cX6_meets 9 = .ok (.ifCond .lt 13, 3) := by decide +kernel
theorem dX6_meets_12 : decode cX6_meets 12 = .ok (.iload_n 2, 1) := by decide +kernel
theorem dX6_meets_13 : decode cX6_meets 13 = .ok (.aload_n 0, 1) := by decide +kernel
theorem dX6_meets_14 : decode cX6_meets 14 = .ok (.getfield 31, 3) := by decide +kernel
theorem dX6_meets_17 : decode cX6_meets 17 = .ok (.iload_n 1, 1) := by decide +kernel
theorem dX6_meets_18 : decode cX6_meets 18 = .ok (.iaload, 1) := by decide +kernel
theorem dX6_meets_19 : decode cX6_meets 19 = .ok (.if_icmp .lt 5, 3) := by decide +kernel
theorem dX6_meets_22 : decode cX6_meets 22 = .ok (.iconst (-1), 1) := by decide +kernel
theorem dX6_meets_23 : decode cX6_meets 23 = .ok (.ireturn, 1) := by decide +kernel
theorem dX6_meets_24 : decode cX6_meets 24 = .ok (.aload_n 0, 1) := by decide +kernel
theorem dX6_meets_25 : decode cX6_meets 25 = .ok (.iload_n 3, 1) := by decide +kernel
theorem dX6_meets_26 : decode cX6_meets 26 = .ok (.invokevirtual 139, 3) := by decide +kernel
theorem dX6_meets_29 : decode cX6_meets 29 = .ok (.ifCond .ne 8, 3) := by decide +kernel
theorem dX6_meets_32 : decode cX6_meets 32 = .ok (.bipush (-2), 2) := by decide +kernel
theorem dX6_meets_34 : decode cX6_meets 34 = .ok (.goto 18, 3) := by decide +kernel
theorem dX6_meets_37 : decode cX6_meets 37 = .ok (.aload_n 0, 1) := by decide +kernel
theorem dX6_meets_38 : decode cX6_meets 38 = .ok (.iload_n 1, 1) := by decide +kernel
theorem dX6_meets_39 : decode cX6_meets 39 = .ok (.iload_n 2, 1) := by decide +kernel
theorem dX6_meets_40 : decode cX6_meets 40 = .ok (.iload_n 3, 1) := by decide +kernel
theorem dX6_meets_41 : decode cX6_meets 41 = .ok (.invokevirtual 119, 3) := by decide +kernel
theorem dX6_meets_44 : decode cX6_meets 44 = .ok (.ifCond .eq 7, 3) := by decide +kernel
theorem dX6_meets_47 : decode cX6_meets 47 = .ok (.iconst 1, 1) := by decide +kernel
theorem dX6_meets_48 : decode cX6_meets 48 = .ok (.goto 4, 3) := by decide +kernel
theorem dX6_meets_51 : decode cX6_meets 51 = .ok (.iconst 0, 1) := by decide +kernel
theorem dX6_meets_52 : decode cX6_meets 52 = .ok (.ireturn, 1) := by decide +kernel
theorem dX6_lines_0 : decode cX6_lines 0 = .ok (.aload_n 0, 1) := by decide +kernel
theorem dX6_lines_1 : decode cX6_lines 1 = .ok (.iload_n 1, 1) := by decide +kernel
theorem dX6_lines_2 : decode cX6_lines 2 = .ok (.invokevirtual 101, 3) := by decide +kernel
theorem dX6_lines_5 : decode cX6_lines 5 = .ok (.ifCond .ne 5, 3) := by decide +kernel
theorem dX6_lines_8 : decode cX6_lines 8 = .ok (.iconst (-1), 1) := by decide +kernel
theorem dX6_lines_9 : decode cX6_lines 9 = .ok (.ireturn, 1) := by decide +kernel
theorem dX6_lines_10 : decode cX6_lines 10 = .ok (.aload_n 0, 1) := by decide +kernel
theorem dX6_lines_11 : decode cX6_lines 11 = .ok (.invokevirtual 126, 3) := by decide +kernel
theorem dX6_lines_14 : decode cX6_lines 14 = .ok (.iconst 0, 1) := by decide +kernel
theorem dX6_lines_15 : decode cX6_lines 15 = .ok (.istore_n 2, 1) := by decide +kernel
theorem dX6_lines_16 : decode cX6_lines 16 = .ok (.iconst 0, 1) := by decide +kernel
theorem dX6_lines_17 : decode cX6_lines 17 = .ok (.istore_n 3, 1) := by decide +kernel
theorem dX6_lines_18 : decode cX6_lines 18 = .ok (.iload_n 3, 1) := by decide +kernel
theorem dX6_lines_19 : decode cX6_lines 19 = .ok (.iconst 1, 1) := by decide +kernel
theorem dX6_lines_20 : decode cX6_lines 20 = .ok (.aload_n 0, 1) := by decide +kernel
theorem dX6_lines_21 : decode cX6_lines 21 = .ok (.getfield 84, 3) := by decide +kernel
theorem dX6_lines_24 : decode cX6_lines 24 = .ok (.ishl, 1) := by decide +kernel
theorem dX6_lines_25 : decode cX6_lines 25 = .ok (.if_icmp .ge 27, 3) := by decide +kernel
theorem dX6_lines_28 : decode cX6_lines 28 = .ok (.aload_n 0, 1) := by decide +kernel
theorem dX6_lines_29 : decode cX6_lines 29 = .ok (.getfield 53, 3) := by decide +kernel
theorem dX6_lines_32 : decode cX6_lines 32 = .ok (.sipush 512, 3) := by decide +kernel
theorem dX6_lines_35 : decode cX6_lines 35 = .ok (.iload_n 1, 1) := by decide +kernel
theorem dX6_lines_36 : decode cX6_lines 36 = .ok (.imul, 1) := by decide +kernel
theorem dX6_lines_37 : decode cX6_lines 37 = .ok (.iload_n 3, 1) := by decide +kernel
theorem dX6_lines_38 : decode cX6_lines 38 = .ok (.iadd, 1) := by decide +kernel
theorem dX6_lines_39 : decode cX6_lines 39 = .ok (.baload, 1) := by decide +kernel
theorem dX6_lines_40 : decode cX6_lines 40 = .ok (.ifCond .eq 6, 3) := by decide +kernel
theorem dX6_lines_43 : decode cX6_lines 43 = .ok (.iinc 2 1, 3) := by decide +kernel
theorem dX6_lines_46 : decode cX6_lines 46 = .ok (.iinc 3 1, 3) := by decide +kernel
theorem dX6_lines_49 : decode cX6_lines 49 = .ok (.goto (-31), 3) := by decide +kernel
theorem dX6_lines_52 : decode cX6_lines 52 = .ok (.iload_n 2, 1) := by decide +kernel
theorem dX6_lines_53 : decode cX6_lines 53 = .ok (.ireturn, 1) := by decide +kernel
theorem dX6_cover_0 : decode cX6_cover 0 = .ok (.iload_n 2, 1) := by decide +kernel
theorem dX6_cover_1 : decode cX6_cover 1 = .ok (.ifCond .lt 11, 3) := by decide +kernel
theorem dX6_cover_4 : decode cX6_cover 4 = .ok (.iload_n 2, 1) := by decide +kernel
theorem dX6_cover_5 : decode cX6_cover 5 = .ok (.aload_n 0, 1) := by decide +kernel
theorem dX6_cover_6 : decode cX6_cover 6 = .ok (.getfield 81, 3) := by decide +kernel
theorem dX6_cover_9 : decode cX6_cover 9 = .ok (.if_icmp .le 5, 3) := by decide +kernel
theorem dX6_cover_12 : decode cX6_cover 12 = .ok (.iconst (-1), 1) := by decide +kernel
theorem dX6_cover_13 : decode cX6_cover 13 = .ok (.ireturn, 1) := by decide +kernel
theorem dX6_cover_14 : decode cX6_cover 14 = .ok (.aload_n 0, 1) := by decide +kernel
theorem dX6_cover_15 : decode cX6_cover 15 = .ok (.iload_n 1, 1) := by decide +kernel
theorem dX6_cover_16 : decode cX6_cover 16 = .ok (.invokevirtual 139, 3) := by decide +kernel
theorem dX6_cover_19 : decode cX6_cover 19 = .ok (.ifCond .ne 6, 3) := by decide +kernel
theorem dX6_cover_22 : decode cX6_cover 22 = .ok (.bipush (-2), 2) := by decide +kernel
theorem dX6_cover_24 : decode cX6_cover 24 = .ok (.ireturn, 1) := by decide +kernel
theorem dX6_cover_25 : decode cX6_cover 25 = .ok (.aload_n 0, 1) := by decide +kernel
theorem dX6_cover_26 : decode cX6_cover 26 = .ok (.invokevirtual 142, 3) := by decide +kernel
theorem dX6_cover_29 : decode cX6_cover 29 = .ok (.aload_n 0, 1) := by decide +kernel
theorem dX6_cover_30 : decode cX6_cover 30 = .ok (.invokevirtual 132, 3) := by decide +kernel
theorem dX6_cover_33 : decode cX6_cover 33 = .ok (.aload_n 0, 1) := by decide +kernel
theorem dX6_cover_34 : decode cX6_cover 34 = .ok (.getfield 57, 3) := by decide +kernel
theorem dX6_cover_37 : decode cX6_cover 37 = .ok (.sipush 512, 3) := by decide +kernel
theorem dX6_cover_40 : decode cX6_cover 40 = .ok (.iload_n 2, 1) := by decide +kernel
theorem dX6_cover_41 : decode cX6_cover 41 = .ok (.imul, 1) := by decide +kernel
theorem dX6_cover_42 : decode cX6_cover 42 = .ok (.iload_n 1, 1) := by decide +kernel
theorem dX6_cover_43 : decode cX6_cover 43 = .ok (.iadd, 1) := by decide +kernel
theorem dX6_cover_44 : decode cX6_cover 44 = .ok (.iaload, 1) := by decide +kernel
theorem dX6_cover_45 : decode cX6_cover 45 = .ok (.ireturn, 1) := by decide +kernel
theorem dX6_better_0 : decode cX6_better 0 = .ok (.aload_n 0, 1) := by decide +kernel
theorem dX6_better_1 : decode cX6_better 1 = .ok (.iload_n 1, 1) := by decide +kernel
theorem dX6_better_2 : decode cX6_better 2 = .ok (.invokevirtual 101, 3) := by decide +kernel
theorem dX6_better_5 : decode cX6_better 5 = .ok (.ifCond .ne 5, 3) := by decide +kernel
theorem dX6_better_8 : decode cX6_better 8 = .ok (.iconst (-1), 1) := by decide +kernel
theorem dX6_better_9 : decode cX6_better 9 = .ok (.ireturn, 1) := by decide +kernel
theorem dX6_better_10 : decode cX6_better 10 = .ok (.aload_n 0, 1) := by decide +kernel
theorem dX6_better_11 : decode cX6_better 11 = .ok (.iload_n 2, 1) := by decide +kernel
theorem dX6_better_12 : decode cX6_better 12 = .ok (.invokevirtual 139, 3) := by decide +kernel
theorem dX6_better_15 : decode cX6_better 15 = .ok (.ifCond .eq 11, 3) := by decide +kernel
theorem dX6_better_18 : decode cX6_better 18 = .ok (.aload_n 0, 1) := by decide +kernel
theorem dX6_better_19 : decode cX6_better 19 = .ok (.iload_n 3, 1) := by decide +kernel
theorem dX6_better_20 : decode cX6_better 20 = .ok (.invokevirtual 139, 3) := by decide +kernel
theorem dX6_better_23 : decode cX6_better 23 = .ok (.ifCond .ne 6, 3) := by decide +kernel
theorem dX6_better_26 : decode cX6_better 26 = .ok (.bipush (-2), 2) := by decide +kernel
theorem dX6_better_28 : decode cX6_better 28 = .ok (.ireturn, 1) := by decide +kernel
theorem dX6_better_29 : decode cX6_better 29 = .ok (.aload_n 0, 1) := by decide +kernel
theorem dX6_better_30 : decode cX6_better 30 = .ok (.iload_n 1, 1) := by decide +kernel
theorem dX6_better_31 : decode cX6_better 31 = .ok (.iload_n 2, 1) := by decide +kernel
theorem dX6_better_32 : decode cX6_better 32 = .ok (.iload_n 3, 1) := by decide +kernel
theorem dX6_better_33 : decode cX6_better 33 = .ok (.invokevirtual 135, 3) := by decide +kernel
theorem dX6_better_36 : decode cX6_better 36 = .ok (.ireturn, 1) := by decide +kernel
theorem dX6_openNow_0 : decode cX6_openNow 0 = .ok (.iconst 1, 1) := by decide +kernel
theorem dX6_openNow_1 : decode cX6_openNow 1 = .ok (.aload_n 0, 1) := by decide +kernel
theorem dX6_openNow_2 : decode cX6_openNow 2 = .ok (.getfield 84, 3) := by decide +kernel
theorem dX6_openNow_5 : decode cX6_openNow 5 = .ok (.ishl, 1) := by decide +kernel
theorem dX6_openNow_6 : decode cX6_openNow 6 = .ok (.iconst 1, 1) := by decide +kernel
theorem dX6_openNow_7 : decode cX6_openNow 7 = .ok (.isub, 1) := by decide +kernel
theorem dX6_openNow_8 : decode cX6_openNow 8 = .ok (.istore_n 1, 1) := by decide +kernel
theorem dX6_openNow_9 : decode cX6_openNow 9 = .ok (.iconst 0, 1) := by decide +kernel
theorem dX6_openNow_10 : decode cX6_openNow 10 = .ok (.istore_n 2, 1) := by decide +kernel
theorem dX6_openNow_11 : decode cX6_openNow 11 = .ok (.iload_n 2, 1) := by decide +kernel
theorem dX6_openNow_12 : decode cX6_openNow 12 = .ok (.aload_n 0, 1) := by decide +kernel
theorem dX6_openNow_13 : decode cX6_openNow 13 = .ok (.getfield 81, 3) := by decide +kernel
theorem dX6_openNow_16 : decode cX6_openNow 16 = .ok (.if_icmp .ge 20, 3) := by decide +kernel
theorem dX6_openNow_19 : decode cX6_openNow 19 = .ok (.iload_n 1, 1) := by decide +kernel
theorem dX6_openNow_20 : decode cX6_openNow 20 = .ok (.aload_n 0, 1) := by decide +kernel
theorem dX6_openNow_21 : decode cX6_openNow 21 = .ok (.getfield 72, 3) := by decide +kernel
theorem dX6_openNow_24 : decode cX6_openNow 24 = .ok (.iload_n 2, 1) := by decide +kernel
theorem dX6_openNow_25 : decode cX6_openNow 25 = .ok (.iaload, 1) := by decide +kernel
theorem dX6_openNow_26 : decode cX6_openNow 26 = .ok (.iconst (-1), 1) := by decide +kernel
theorem dX6_openNow_27 : decode cX6_openNow 27 = .ok (.ixor, 1) := by decide +kernel
theorem dX6_openNow_28 : decode cX6_openNow 28 = .ok (.iand, 1) := by decide +kernel
theorem dX6_openNow_29 : decode cX6_openNow 29 = .ok (.istore_n 1, 1) := by decide +kernel
theorem dX6_openNow_30 : decode cX6_openNow 30 = .ok (.iinc 2 1, 3) := by decide +kernel
theorem dX6_openNow_33 : decode cX6_openNow 33 = .ok (.goto (-22), 3) := by decide +kernel
theorem dX6_openNow_36 : decode cX6_openNow 36 = .ok (.iload_n 1, 1) := by decide +kernel
theorem dX6_openNow_37 : decode cX6_openNow 37 = .ok (.ireturn, 1) := by decide +kernel
theorem dX6_give_0 : decode cX6_give 0 = .ok (.aload_n 0, 1) := by decide +kernel
theorem dX6_give_1 : decode cX6_give 1 = .ok (.invokevirtual 142, 3) := by decide +kernel
theorem dX6_give_4 : decode cX6_give 4 = .ok (.aload_n 0, 1) := by decide +kernel
theorem dX6_give_5 : decode cX6_give 5 = .ok (.invokevirtual 145, 3) := by decide +kernel
theorem dX6_give_8 : decode cX6_give 8 = .ok (.iconst 0, 1) := by decide +kernel
theorem dX6_give_9 : decode cX6_give 9 = .ok (.istore_n 1, 1) := by decide +kernel
theorem dX6_give_10 : decode cX6_give 10 = .ok (.iload_n 1, 1) := by decide +kernel
theorem dX6_give_11 : decode cX6_give 11 = .ok (.aload_n 0, 1) := by decide +kernel
theorem dX6_give_12 : decode cX6_give 12 = .ok (.getfield 81, 3) := by decide +kernel
theorem dX6_give_15 : decode cX6_give 15 = .ok (.if_icmp .ge 40, 3) := by decide +kernel
theorem dX6_give_18 : decode cX6_give 18 = .ok (.aload_n 0, 1) := by decide +kernel
theorem dX6_give_19 : decode cX6_give 19 = .ok (.getfield 72, 3) := by decide +kernel
theorem dX6_give_22 : decode cX6_give 22 = .ok (.iload_n 1, 1) := by decide +kernel
theorem dX6_give_23 : decode cX6_give 23 = .ok (.aload_n 0, 1) := by decide +kernel
theorem dX6_give_24 : decode cX6_give 24 = .ok (.getfield 66, 3) := by decide +kernel
theorem dX6_give_27 : decode cX6_give 27 = .ok (.iload_n 1, 1) := by decide +kernel
theorem dX6_give_28 : decode cX6_give 28 = .ok (.iaload, 1) := by decide +kernel
theorem dX6_give_29 : decode cX6_give 29 = .ok (.iastore, 1) := by decide +kernel
theorem dX6_give_30 : decode cX6_give 30 = .ok (.aload_n 0, 1) := by decide +kernel
theorem dX6_give_31 : decode cX6_give 31 = .ok (.getfield 75, 3) := by decide +kernel
theorem dX6_give_34 : decode cX6_give 34 = .ok (.iload_n 1, 1) := by decide +kernel
theorem dX6_give_35 : decode cX6_give 35 = .ok (.aload_n 0, 1) := by decide +kernel
theorem dX6_give_36 : decode cX6_give 36 = .ok (.getfield 69, 3) := by decide +kernel
theorem dX6_give_39 : decode cX6_give 39 = .ok (.iload_n 1, 1) := by decide +kernel
theorem dX6_give_40 : decode cX6_give 40 = .ok (.iaload, 1) := by decide +kernel
theorem dX6_give_41 : decode cX6_give 41 = .ok (.iastore, 1) := by decide +kernel
theorem dX6_give_42 : decode cX6_give 42 = .ok (.aload_n 0, 1) := by decide +kernel
theorem dX6_give_43 : decode cX6_give 43 = .ok (.getfield 78, 3) := by decide +kernel
theorem dX6_give_46 : decode cX6_give 46 = .ok (.iload_n 1, 1) := by decide +kernel
theorem dX6_give_47 : decode cX6_give 47 = .ok (.iconst 0, 1) := by decide +kernel
theorem dX6_give_48 : decode cX6_give 48 = .ok (.bastore, 1) := by decide +kernel
theorem dX6_give_49 : decode cX6_give 49 = .ok (.iinc 1 1, 3) := by decide +kernel
theorem dX6_give_52 : decode cX6_give 52 = .ok (.goto (-42), 3) := by decide +kernel
theorem dX6_give_55 : decode cX6_give 55 = .ok (.aload_n 0, 1) := by decide +kernel
theorem dX6_give_56 : decode cX6_give 56 = .ok (.iconst 1, 1) := by decide +kernel
theorem dX6_give_57 : decode cX6_give 57 = .ok (.putfield 95, 3) := by decide +kernel
theorem dX6_give_60 : decode cX6_give 60 = .ok (.aload_n 0, 1) := by decide +kernel
theorem dX6_give_61 : decode cX6_give 61 = .ok (.iconst 1, 1) := by decide +kernel
theorem dX6_give_62 : decode cX6_give 62 = .ok (.putfield 148, 3) := by decide +kernel
theorem dX6_give_65 : decode cX6_give 65 = .ok (.aload_n 0, 1) := by decide +kernel
theorem dX6_give_66 : decode cX6_give 66 = .ok (.invokevirtual 151, 3) := by decide +kernel
theorem dX6_give_69 : decode cX6_give 69 = .ok (.invokestatic 129, 3) := by decide +kernel
theorem dX6_give_72 : decode cX6_give 72 = .ok (.ireturn, 1) := by decide +kernel
theorem dX6_line_0 : decode cX6_line 0 = .ok (.aload_n 0, 1) := by decide +kernel
theorem dX6_line_1 : decode cX6_line 1 = .ok (.iload_n 1, 1) := by decide +kernel
theorem dX6_line_2 : decode cX6_line 2 = .ok (.invokevirtual 101, 3) := by decide +kernel
theorem dX6_line_5 : decode cX6_line 5 = .ok (.ifCond .ne 5, 3) := by decide +kernel
theorem dX6_line_8 : decode cX6_line 8 = .ok (.iconst (-1), 1) := by decide +kernel
theorem dX6_line_9 : decode cX6_line 9 = .ok (.ireturn, 1) := by decide +kernel
theorem dX6_line_10 : decode cX6_line 10 = .ok (.aload_n 0, 1) := by decide +kernel
theorem dX6_line_11 : decode cX6_line 11 = .ok (.getfield 95, 3) := by decide +kernel
theorem dX6_line_14 : decode cX6_line 14 = .ok (.ifCond .eq 12, 3) := by decide +kernel
theorem dX6_line_17 : decode cX6_line 17 = .ok (.aload_n 0, 1) := by decide +kernel
theorem dX6_line_18 : decode cX6_line 18 = .ok (.getfield 72, 3) := by decide +kernel
theorem dX6_line_21 : decode cX6_line 21 = .ok (.iload_n 1, 1) := by decide +kernel
theorem dX6_line_22 : decode cX6_line 22 = .ok (.iaload, 1) := by decide +kernel
theorem dX6_line_23 : decode cX6_line 23 = .ok (.goto 5, 3) := by decide +kernel
theorem dX6_line_26 : decode cX6_line 26 = .ok (.bipush (-3), 2) := by decide +kernel
theorem dX6_line_28 : decode cX6_line 28 = .ok (.ireturn, 1) := by decide +kernel
theorem dX6_metOf_0 : decode cX6_metOf 0 = .ok (.iconst 0, 1) := by decide +kernel
theorem dX6_metOf_1 : decode cX6_metOf 1 = .ok (.istore_n 2, 1) := by decide +kernel
theorem dX6_metOf_2 : decode cX6_metOf 2 = .ok (.iconst 0, 1) := by decide +kernel
theorem dX6_metOf_3 : decode cX6_metOf 3 = .ok (.istore_n 3, 1) := by decide +kernel
theorem dX6_metOf_4 : decode cX6_metOf 4 = .ok (.iload_n 3, 1) := by decide +kernel
theorem dX6_metOf_5 : decode cX6_metOf 5 = .ok (.aload_n 0, 1) := by decide +kernel
theorem dX6_metOf_6 : decode cX6_metOf 6 = .ok (.getfield 31, 3) := by decide +kernel
theorem dX6_metOf_9 : decode cX6_metOf 9 = .ok (.iload_n 1, 1) := by decide +kernel
theorem dX6_metOf_10 : decode cX6_metOf 10 = .ok (.iaload, 1) := by decide +kernel
theorem dX6_metOf_11 : decode cX6_metOf 11 = .ok (.if_icmp .ge 27, 3) := by decide +kernel
theorem dX6_metOf_14 : decode cX6_metOf 14 = .ok (.aload_n 0, 1) := by decide +kernel
theorem dX6_metOf_15 : decode cX6_metOf 15 = .ok (.iload_n 1, 1) := by decide +kernel
theorem dX6_metOf_16 : decode cX6_metOf 16 = .ok (.iload_n 3, 1) := by decide +kernel
theorem dX6_metOf_17 : decode cX6_metOf 17 = .ok (.aload_n 0, 1) := by decide +kernel
theorem dX6_metOf_18 : decode cX6_metOf 18 = .ok (.getfield 72, 3) := by decide +kernel
theorem dX6_metOf_21 : decode cX6_metOf 21 = .ok (.iload_n 1, 1) := by decide +kernel
theorem dX6_metOf_22 : decode cX6_metOf 22 = .ok (.iaload, 1) := by decide +kernel
theorem dX6_metOf_23 : decode cX6_metOf 23 = .ok (.invokevirtual 119, 3) := by decide +kernel
theorem dX6_metOf_26 : decode cX6_metOf 26 = .ok (.ifCond .eq 6, 3) := by decide +kernel
theorem dX6_metOf_29 : decode cX6_metOf 29 = .ok (.iinc 2 1, 3) := by decide +kernel
theorem dX6_metOf_32 : decode cX6_metOf 32 = .ok (.iinc 3 1, 3) := by decide +kernel
theorem dX6_metOf_35 : decode cX6_metOf 35 = .ok (.goto (-31), 3) := by decide +kernel
theorem dX6_metOf_38 : decode cX6_metOf 38 = .ok (.iload_n 2, 1) := by decide +kernel
theorem dX6_metOf_39 : decode cX6_metOf 39 = .ok (.ireturn, 1) := by decide +kernel
theorem dX6_about_0 : decode cX6_about 0 = .ok (.aload_n 0, 1) := by decide +kernel
theorem dX6_about_1 : decode cX6_about 1 = .ok (.iload_n 1, 1) := by decide +kernel
theorem dX6_about_2 : decode cX6_about 2 = .ok (.invokevirtual 101, 3) := by decide +kernel
theorem dX6_about_5 : decode cX6_about 5 = .ok (.ifCond .eq 12, 3) := by decide +kernel
theorem dX6_about_8 : decode cX6_about 8 = .ok (.iload_n 2, 1) := by decide +kernel
theorem dX6_about_9 : decode cX6_about 9 = .ok (.ifCond .lt 8, 3) := by decide +kernel
theorem dX6_about_12 : decode cX6_about 12 = .ok (.iload_n 2, 1) := by decide +kernel
theorem dX6_about_13 : decode cX6_about 13 = .ok (.iconst 4, 1) := by decide +kernel
theorem dX6_about_14 : decode cX6_about 14 = .ok (.if_icmp .le 5, 3) := by decide +kernel
theorem dX6_about_17 : decode cX6_about 17 = .ok (.iconst (-1), 1) := by decide +kernel
theorem dX6_about_18 : decode cX6_about 18 = .ok (.ireturn, 1) := by decide +kernel
theorem dX6_about_19 : decode cX6_about 19 = .ok (.aload_n 0, 1) := by decide +kernel
theorem dX6_about_20 : decode cX6_about 20 = .ok (.getfield 95, 3) := by decide +kernel
theorem dX6_about_23 : decode cX6_about 23 = .ok (.ifCond .ne 6, 3) := by decide +kernel
theorem dX6_about_26 : decode cX6_about 26 = .ok (.bipush (-3), 2) := by decide +kernel
theorem dX6_about_28 : decode cX6_about 28 = .ok (.ireturn, 1) := by decide +kernel
theorem dX6_about_29 : decode cX6_about 29 = .ok (.iload_n 2, 1) := by decide +kernel
theorem dX6_about_30 : decode cX6_about 30 = .ok (.tableswitch 95 0 3 #[30, 41, 51, 89], 30) := by decide +kernel
theorem dX6_about_60 : decode cX6_about 60 = .ok (.aload_n 0, 1) := by decide +kernel
theorem dX6_about_61 : decode cX6_about 61 = .ok (.aload_n 0, 1) := by decide +kernel
theorem dX6_about_62 : decode cX6_about 62 = .ok (.getfield 72, 3) := by decide +kernel
theorem dX6_about_65 : decode cX6_about 65 = .ok (.iload_n 1, 1) := by decide +kernel
theorem dX6_about_66 : decode cX6_about 66 = .ok (.iaload, 1) := by decide +kernel
theorem dX6_about_67 : decode cX6_about 67 = .ok (.invokevirtual 116, 3) := by decide +kernel
theorem dX6_about_70 : decode cX6_about 70 = .ok (.ireturn, 1) := by decide +kernel
theorem dX6_about_71 : decode cX6_about 71 = .ok (.aload_n 0, 1) := by decide +kernel
theorem dX6_about_72 : decode cX6_about 72 = .ok (.getfield 72, 3) := by decide +kernel
theorem dX6_about_75 : decode cX6_about 75 = .ok (.iload_n 1, 1) := by decide +kernel
theorem dX6_about_76 : decode cX6_about 76 = .ok (.iaload, 1) := by decide +kernel
theorem dX6_about_77 : decode cX6_about 77 = .ok (.invokestatic 129, 3) := by decide +kernel
theorem dX6_about_80 : decode cX6_about 80 = .ok (.ireturn, 1) := by decide +kernel
theorem dX6_about_81 : decode cX6_about 81 = .ok (.iconst 0, 1) := by decide +kernel
theorem dX6_about_82 : decode cX6_about 82 = .ok (.istore_n 3, 1) := by decide +kernel
theorem dX6_about_83 : decode cX6_about 83 = .ok (.iconst 0, 1) := by decide +kernel
theorem dX6_about_84 : decode cX6_about 84 = .ok (.istore 4, 2) := by decide +kernel
theorem dX6_about_86 : decode cX6_about 86 = .ok (.iload 4, 2) := by decide +kernel
theorem dX6_about_88 : decode cX6_about 88 = .ok (.bipush 14, 2) := by decide +kernel
theorem dX6_about_90 : decode cX6_about 90 = .ok (.if_icmp .ge 27, 3) := by decide +kernel
theorem dX6_about_93 : decode cX6_about 93 = .ok (.aload_n 0, 1) := by decide +kernel
theorem dX6_about_94 : decode cX6_about 94 = .ok (.aload_n 0, 1) := by decide +kernel
theorem dX6_about_95 : decode cX6_about 95 = .ok (.getfield 72, 3) := by decide +kernel
theorem dX6_about_98 : decode cX6_about 98 = .ok (.iload_n 1, 1) := by decide +kernel
theorem dX6_about_99 : decode cX6_about 99 = .ok (.iaload, 1) := by decide +kernel
theorem dX6_about_100 : decode cX6_about 100 = .ok (.iload 4, 2) := by decide +kernel
theorem dX6_about_102 : decode cX6_about 102 = .ok (.invokevirtual 108, 3) := by decide +kernel
theorem dX6_about_105 : decode cX6_about 105 = .ok (.ifCond .le 6, 3) := by decide +kernel
theorem dX6_about_108 : decode cX6_about 108 = .ok (.iinc 3 1, 3) := by decide +kernel
theorem dX6_about_111 : decode cX6_about 111 = .ok (.iinc 4 1, 3) := by decide +kernel
theorem dX6_about_114 : decode cX6_about 114 = .ok (.goto (-28), 3) := by decide +kernel
theorem dX6_about_117 : decode cX6_about 117 = .ok (.iload_n 3, 1) := by decide +kernel
theorem dX6_about_118 : decode cX6_about 118 = .ok (.ireturn, 1) := by decide +kernel
theorem dX6_about_119 : decode cX6_about 119 = .ok (.aload_n 0, 1) := by decide +kernel
theorem dX6_about_120 : decode cX6_about 120 = .ok (.iload_n 1, 1) := by decide +kernel
theorem dX6_about_121 : decode cX6_about 121 = .ok (.invokevirtual 155, 3) := by decide +kernel
theorem dX6_about_124 : decode cX6_about 124 = .ok (.ireturn, 1) := by decide +kernel
theorem dX6_about_125 : decode cX6_about 125 = .ok (.aload_n 0, 1) := by decide +kernel
theorem dX6_about_126 : decode cX6_about 126 = .ok (.getfield 78, 3) := by decide +kernel
theorem dX6_about_129 : decode cX6_about 129 = .ok (.iload_n 1, 1) := by decide +kernel
theorem dX6_about_130 : decode cX6_about 130 = .ok (.baload, 1) := by decide +kernel
theorem dX6_about_131 : decode cX6_about 131 = .ok (.ifCond .eq 7, 3) := by decide +kernel
theorem dX6_about_134 : decode cX6_about 134 = .ok (.iconst 1, 1) := by decide +kernel
theorem dX6_about_135 : decode cX6_about 135 = .ok (.goto 4, 3) := by decide +kernel
theorem dX6_about_138 : decode cX6_about 138 = .ok (.iconst 0, 1) := by decide +kernel
theorem dX6_about_139 : decode cX6_about 139 = .ok (.ireturn, 1) := by decide +kernel
theorem dX6_open_0 : decode cX6_open 0 = .ok (.aload_n 0, 1) := by decide +kernel
theorem dX6_open_1 : decode cX6_open 1 = .ok (.getfield 95, 3) := by decide +kernel
theorem dX6_open_4 : decode cX6_open 4 = .ok (.ifCond .eq 10, 3) := by decide +kernel
theorem dX6_open_7 : decode cX6_open 7 = .ok (.aload_n 0, 1) := by decide +kernel
theorem dX6_open_8 : decode cX6_open 8 = .ok (.invokevirtual 151, 3) := by decide +kernel
theorem dX6_open_11 : decode cX6_open 11 = .ok (.goto 5, 3) := by decide +kernel
theorem dX6_open_14 : decode cX6_open 14 = .ok (.bipush (-3), 2) := by decide +kernel
theorem dX6_open_16 : decode cX6_open 16 = .ok (.ireturn, 1) := by decide +kernel
theorem dX6_serves_0 : decode cX6_serves 0 = .ok (.iconst 0, 1) := by decide +kernel
theorem dX6_serves_1 : decode cX6_serves 1 = .ok (.istore 4, 2) := by decide +kernel
theorem dX6_serves_3 : decode cX6_serves 3 = .ok (.iload 4, 2) := by decide +kernel
theorem dX6_serves_5 : decode cX6_serves 5 = .ok (.iload_n 2, 1) := by decide +kernel
theorem dX6_serves_6 : decode cX6_serves 6 = .ok (.if_icmp .ge 38, 3) := by decide +kernel
theorem dX6_serves_9 : decode cX6_serves 9 = .ok (.aload_n 0, 1) := by decide +kernel
theorem dX6_serves_10 : decode cX6_serves 10 = .ok (.iload_n 1, 1) := by decide +kernel
theorem dX6_serves_11 : decode cX6_serves 11 = .ok (.iload 4, 2) := by decide +kernel
theorem dX6_serves_13 : decode cX6_serves 13 = .ok (.aload_n 0, 1) := by decide +kernel
theorem dX6_serves_14 : decode cX6_serves 14 = .ok (.getfield 72, 3) := by decide +kernel
theorem dX6_serves_17 : decode cX6_serves 17 = .ok (.iload_n 1, 1) := by decide +kernel
theorem dX6_serves_18 : decode cX6_serves 18 = .ok (.iaload, 1) := by decide +kernel
theorem dX6_serves_19 : decode cX6_serves 19 = .ok (.invokevirtual 119, 3) := by decide +kernel
theorem dX6_serves_22 : decode cX6_serves 22 = .ok (.ifCond .eq 16, 3) := by decide +kernel
theorem dX6_serves_25 : decode cX6_serves 25 = .ok (.aload_n 0, 1) := by decide +kernel
theorem dX6_serves_26 : decode cX6_serves 26 = .ok (.iload_n 1, 1) := by decide +kernel
theorem dX6_serves_27 : decode cX6_serves 27 = .ok (.iload 4, 2) := by decide +kernel
theorem dX6_serves_29 : decode cX6_serves 29 = .ok (.iload_n 3, 1) := by decide +kernel
theorem dX6_serves_30 : decode cX6_serves 30 = .ok (.invokevirtual 119, 3) := by decide +kernel
theorem dX6_serves_33 : decode cX6_serves 33 = .ok (.ifCond .ne 5, 3) := by decide +kernel
theorem dX6_serves_36 : decode cX6_serves 36 = .ok (.iconst 0, 1) := by decide +kernel
theorem dX6_serves_37 : decode cX6_serves 37 = .ok (.ireturn, 1) := by decide +kernel
theorem dX6_serves_38 : decode cX6_serves 38 = .ok (.iinc 4 1, 3) := by decide +kernel
theorem dX6_serves_41 : decode cX6_serves 41 = .ok (.goto (-38), 3) := by decide +kernel
theorem dX6_serves_44 : decode cX6_serves 44 = .ok (.aload_n 0, 1) := by decide +kernel
theorem dX6_serves_45 : decode cX6_serves 45 = .ok (.iload_n 1, 1) := by decide +kernel
theorem dX6_serves_46 : decode cX6_serves 46 = .ok (.iload_n 2, 1) := by decide +kernel
theorem dX6_serves_47 : decode cX6_serves 47 = .ok (.iload_n 3, 1) := by decide +kernel
theorem dX6_serves_48 : decode cX6_serves 48 = .ok (.invokevirtual 119, 3) := by decide +kernel
theorem dX6_serves_51 : decode cX6_serves 51 = .ok (.ireturn, 1) := by decide +kernel
theorem dX6_denied_0 : decode cX6_denied 0 = .ok (.aload_n 0, 1) := by decide +kernel
theorem dX6_denied_1 : decode cX6_denied 1 = .ok (.iload_n 1, 1) := by decide +kernel
theorem dX6_denied_2 : decode cX6_denied 2 = .ok (.invokevirtual 101, 3) := by decide +kernel
theorem dX6_denied_5 : decode cX6_denied 5 = .ok (.ifCond .eq 17, 3) := by decide +kernel
theorem dX6_denied_8 : decode cX6_denied 8 = .ok (.iload_n 2, 1) := by decide +kernel
theorem dX6_denied_9 : decode cX6_denied 9 = .ok (.ifCond .lt 13, 3) := by decide +kernel
theorem dX6_denied_12 : decode cX6_denied 12 = .ok (.iload_n 2, 1) := by decide +kernel
theorem dX6_denied_13 : decode cX6_denied 13 = .ok (.aload_n 0, 1) := by decide +kernel
theorem dX6_denied_14 : decode cX6_denied 14 = .ok (.getfield 31, 3) := by decide +kernel
theorem dX6_denied_17 : decode cX6_denied 17 = .ok (.iload_n 1, 1) := by decide +kernel
theorem dX6_denied_18 : decode cX6_denied 18 = .ok (.iaload, 1) := by decide +kernel
theorem dX6_denied_19 : decode cX6_denied 19 = .ok (.if_icmp .lt 5, 3) := by decide +kernel
theorem dX6_denied_22 : decode cX6_denied 22 = .ok (.iconst (-1), 1) := by decide +kernel
theorem dX6_denied_23 : decode cX6_denied 23 = .ok (.ireturn, 1) := by decide +kernel
theorem dX6_denied_24 : decode cX6_denied 24 = .ok (.aload_n 0, 1) := by decide +kernel
theorem dX6_denied_25 : decode cX6_denied 25 = .ok (.getfield 95, 3) := by decide +kernel
theorem dX6_denied_28 : decode cX6_denied 28 = .ok (.ifCond .eq 10, 3) := by decide +kernel
theorem dX6_denied_31 : decode cX6_denied 31 = .ok (.aload_n 0, 1) := by decide +kernel
theorem dX6_denied_32 : decode cX6_denied 32 = .ok (.getfield 148, 3) := by decide +kernel
theorem dX6_denied_35 : decode cX6_denied 35 = .ok (.ifCond .ne 6, 3) := by decide +kernel
theorem dX6_denied_38 : decode cX6_denied 38 = .ok (.bipush (-3), 2) := by decide +kernel
theorem dX6_denied_40 : decode cX6_denied 40 = .ok (.ireturn, 1) := by decide +kernel
theorem dX6_denied_41 : decode cX6_denied 41 = .ok (.aload_n 0, 1) := by decide +kernel
theorem dX6_denied_42 : decode cX6_denied 42 = .ok (.iload_n 1, 1) := by decide +kernel
theorem dX6_denied_43 : decode cX6_denied 43 = .ok (.iload_n 2, 1) := by decide +kernel
theorem dX6_denied_44 : decode cX6_denied 44 = .ok (.aload_n 0, 1) := by decide +kernel
theorem dX6_denied_45 : decode cX6_denied 45 = .ok (.getfield 72, 3) := by decide +kernel
theorem dX6_denied_48 : decode cX6_denied 48 = .ok (.iload_n 1, 1) := by decide +kernel
theorem dX6_denied_49 : decode cX6_denied 49 = .ok (.iaload, 1) := by decide +kernel
theorem dX6_denied_50 : decode cX6_denied 50 = .ok (.invokevirtual 119, 3) := by decide +kernel
theorem dX6_denied_53 : decode cX6_denied 53 = .ok (.ifCond .eq 5, 3) := by decide +kernel
theorem dX6_denied_56 : decode cX6_denied 56 = .ok (.iconst 0, 1) := by decide +kernel
theorem dX6_denied_57 : decode cX6_denied 57 = .ok (.ireturn, 1) := by decide +kernel
theorem dX6_denied_58 : decode cX6_denied 58 = .ok (.aload_n 0, 1) := by decide +kernel
theorem dX6_denied_59 : decode cX6_denied 59 = .ok (.invokevirtual 126, 3) := by decide +kernel
theorem dX6_denied_62 : decode cX6_denied 62 = .ok (.iconst 1, 1) := by decide +kernel
theorem dX6_denied_63 : decode cX6_denied 63 = .ok (.istore_n 3, 1) := by decide +kernel
theorem dX6_denied_64 : decode cX6_denied 64 = .ok (.iconst 0, 1) := by decide +kernel
theorem dX6_denied_65 : decode cX6_denied 65 = .ok (.istore 4, 2) := by decide +kernel
theorem dX6_denied_67 : decode cX6_denied 67 = .ok (.iload 4, 2) := by decide +kernel
theorem dX6_denied_69 : decode cX6_denied 69 = .ok (.iconst 1, 1) := by decide +kernel
theorem dX6_denied_70 : decode cX6_denied 70 = .ok (.aload_n 0, 1) := by decide +kernel
theorem dX6_denied_71 : decode cX6_denied 71 = .ok (.getfield 84, 3) := by decide +kernel
theorem dX6_denied_74 : decode cX6_denied 74 = .ok (.ishl, 1) := by decide +kernel
theorem dX6_denied_75 : decode cX6_denied 75 = .ok (.if_icmp .ge 57, 3) := by decide +kernel
theorem dX6_denied_78 : decode cX6_denied 78 = .ok (.aload_n 0, 1) := by decide +kernel
theorem dX6_denied_79 : decode cX6_denied 79 = .ok (.getfield 53, 3) := by decide +kernel
theorem dX6_denied_82 : decode cX6_denied 82 = .ok (.sipush 512, 3) := by decide +kernel
theorem dX6_denied_85 : decode cX6_denied 85 = .ok (.iload_n 1, 1) := by decide +kernel
theorem dX6_denied_86 : decode cX6_denied 86 = .ok (.imul, 1) := by decide +kernel
theorem dX6_denied_87 : decode cX6_denied 87 = .ok (.iload 4, 2) := by decide +kernel
theorem dX6_denied_89 : decode cX6_denied 89 = .ok (.iadd, 1) := by decide +kernel
theorem dX6_denied_90 : decode cX6_denied 90 = .ok (.baload, 1) := by decide +kernel
theorem dX6_denied_91 : decode cX6_denied 91 = .ok (.ifCond .eq 35, 3) := by decide +kernel
theorem dX6_denied_94 : decode cX6_denied 94 = .ok (.aload_n 0, 1) := by decide +kernel
theorem dX6_denied_95 : decode cX6_denied 95 = .ok (.iload_n 1, 1) := by decide +kernel
theorem dX6_denied_96 : decode cX6_denied 96 = .ok (.iload_n 2, 1) := by decide +kernel
theorem dX6_denied_97 : decode cX6_denied 97 = .ok (.iload 4, 2) := by decide +kernel
theorem dX6_denied_99 : decode cX6_denied 99 = .ok (.invokevirtual 158, 3) := by decide +kernel
theorem dX6_denied_102 : decode cX6_denied 102 = .ok (.ifCond .ne 6, 3) := by decide +kernel
theorem dX6_denied_105 : decode cX6_denied 105 = .ok (.goto 21, 3) := by decide +kernel
theorem dX6_denied_108 : decode cX6_denied 108 = .ok (.iload 4, 2) := by decide +kernel
theorem dX6_denied_110 : decode cX6_denied 110 = .ok (.aload_n 0, 1) := by decide +kernel
theorem dX6_denied_111 : decode cX6_denied 111 = .ok (.getfield 75, 3) := by decide +kernel
theorem dX6_denied_114 : decode cX6_denied 114 = .ok (.iload_n 1, 1) := by decide +kernel
theorem dX6_denied_115 : decode cX6_denied 115 = .ok (.iaload, 1) := by decide +kernel
theorem dX6_denied_116 : decode cX6_denied 116 = .ok (.iconst (-1), 1) := by decide +kernel
theorem dX6_denied_117 : decode cX6_denied 117 = .ok (.ixor, 1) := by decide +kernel
theorem dX6_denied_118 : decode cX6_denied 118 = .ok (.iand, 1) := by decide +kernel
theorem dX6_denied_119 : decode cX6_denied 119 = .ok (.ifCond .ne 5, 3) := by decide +kernel
theorem dX6_denied_122 : decode cX6_denied 122 = .ok (.iconst 3, 1) := by decide +kernel
theorem dX6_denied_123 : decode cX6_denied 123 = .ok (.ireturn, 1) := by decide +kernel
theorem dX6_denied_124 : decode cX6_denied 124 = .ok (.iconst 2, 1) := by decide +kernel
theorem dX6_denied_125 : decode cX6_denied 125 = .ok (.istore_n 3, 1) := by decide +kernel
theorem dX6_denied_126 : decode cX6_denied 126 = .ok (.iinc 4 1, 3) := by decide +kernel
theorem dX6_denied_129 : decode cX6_denied 129 = .ok (.goto (-62), 3) := by decide +kernel
theorem dX6_denied_132 : decode cX6_denied 132 = .ok (.iload_n 3, 1) := by decide +kernel
theorem dX6_denied_133 : decode cX6_denied 133 = .ok (.ireturn, 1) := by decide +kernel
theorem dX6_ahead_0 : decode cX6_ahead 0 = .ok (.aload_n 0, 1) := by decide +kernel
theorem dX6_ahead_1 : decode cX6_ahead 1 = .ok (.iload_n 1, 1) := by decide +kernel
theorem dX6_ahead_2 : decode cX6_ahead 2 = .ok (.invokevirtual 101, 3) := by decide +kernel
theorem dX6_ahead_5 : decode cX6_ahead 5 = .ok (.ifCond .eq 11, 3) := by decide +kernel
theorem dX6_ahead_8 : decode cX6_ahead 8 = .ok (.aload_n 0, 1) := by decide +kernel
theorem dX6_ahead_9 : decode cX6_ahead 9 = .ok (.iload_n 2, 1) := by decide +kernel
theorem dX6_ahead_10 : decode cX6_ahead 10 = .ok (.invokevirtual 101, 3) := by decide +kernel
theorem dX6_ahead_13 : decode cX6_ahead 13 = .ok (.ifCond .ne 5, 3) := by decide +kernel
theorem dX6_ahead_16 : decode cX6_ahead 16 = .ok (.iconst (-1), 1) := by decide +kernel
theorem dX6_ahead_17 : decode cX6_ahead 17 = .ok (.ireturn, 1) := by decide +kernel
theorem dX6_ahead_18 : decode cX6_ahead 18 = .ok (.iconst 0, 1) := by decide +kernel
theorem dX6_ahead_19 : decode cX6_ahead 19 = .ok (.istore_n 3, 1) := by decide +kernel
theorem dX6_ahead_20 : decode cX6_ahead 20 = .ok (.iconst 0, 1) := by decide +kernel
theorem dX6_ahead_21 : decode cX6_ahead 21 = .ok (.istore 4, 2) := by decide +kernel
theorem dX6_ahead_23 : decode cX6_ahead 23 = .ok (.iload 4, 2) := by decide +kernel
theorem dX6_ahead_25 : decode cX6_ahead 25 = .ok (.aload_n 0, 1) := by decide +kernel
theorem dX6_ahead_26 : decode cX6_ahead 26 = .ok (.getfield 81, 3) := by decide +kernel
theorem dX6_ahead_29 : decode cX6_ahead 29 = .ok (.if_icmp .ge 26, 3) := by decide +kernel
theorem dX6_ahead_32 : decode cX6_ahead 32 = .ok (.iload 4, 2) := by decide +kernel
theorem dX6_ahead_34 : decode cX6_ahead 34 = .ok (.iload_n 1, 1) := by decide +kernel
theorem dX6_ahead_35 : decode cX6_ahead 35 = .ok (.if_icmp .eq 14, 3) := by decide +kernel
theorem dX6_ahead_38 : decode cX6_ahead 38 = .ok (.aload_n 0, 1) := by decide +kernel
theorem dX6_ahead_39 : decode cX6_ahead 39 = .ok (.getfield 63, 3) := by decide +kernel
theorem dX6_ahead_42 : decode cX6_ahead 42 = .ok (.iload_n 3, 1) := by decide +kernel
theorem dX6_ahead_43 : decode cX6_ahead 43 = .ok (.iinc 3 1, 3) := by decide +kernel
theorem dX6_ahead_46 : decode cX6_ahead 46 = .ok (.iload 4, 2) := by decide +kernel
theorem dX6_ahead_48 : decode cX6_ahead 48 = .ok (.iastore, 1) := by decide +kernel
theorem dX6_ahead_49 : decode cX6_ahead 49 = .ok (.iinc 4 1, 3) := by decide +kernel
theorem dX6_ahead_52 : decode cX6_ahead 52 = .ok (.goto (-29), 3) := by decide +kernel
theorem dX6_ahead_55 : decode cX6_ahead 55 = .ok (.iconst 0, 1) := by decide +kernel
theorem dX6_ahead_56 : decode cX6_ahead 56 = .ok (.istore 4, 2) := by decide +kernel
theorem dX6_ahead_58 : decode cX6_ahead 58 = .ok (.iconst 0, 1) := by decide +kernel
theorem dX6_ahead_59 : decode cX6_ahead 59 = .ok (.istore 5, 2) := by decide +kernel
theorem dX6_ahead_61 : decode cX6_ahead 61 = .ok (.iload 5, 2) := by decide +kernel
theorem dX6_ahead_63 : decode cX6_ahead 63 = .ok (.aload_n 0, 1) := by decide +kernel
theorem dX6_ahead_64 : decode cX6_ahead 64 = .ok (.getfield 81, 3) := by decide +kernel
theorem dX6_ahead_67 : decode cX6_ahead 67 = .ok (.if_icmp .ge 36, 3) := by decide +kernel
theorem dX6_ahead_70 : decode cX6_ahead 70 = .ok (.aload_n 0, 1) := by decide +kernel
theorem dX6_ahead_71 : decode cX6_ahead 71 = .ok (.getfield 60, 3) := by decide +kernel
theorem dX6_ahead_74 : decode cX6_ahead 74 = .ok (.iload 5, 2) := by decide +kernel
theorem dX6_ahead_76 : decode cX6_ahead 76 = .ok (.iload 5, 2) := by decide +kernel
theorem dX6_ahead_78 : decode cX6_ahead 78 = .ok (.iload_n 2, 1) := by decide +kernel
theorem dX6_ahead_79 : decode cX6_ahead 79 = .ok (.if_icmp .ne 7, 3) := by decide +kernel
theorem dX6_ahead_82 : decode cX6_ahead 82 = .ok (.iload_n 1, 1) := by decide +kernel
theorem dX6_ahead_83 : decode cX6_ahead 83 = .ok (.goto 13, 3) := by decide +kernel
theorem dX6_ahead_86 : decode cX6_ahead 86 = .ok (.aload_n 0, 1) := by decide +kernel
theorem dX6_ahead_87 : decode cX6_ahead 87 = .ok (.getfield 63, 3) := by decide +kernel
theorem dX6_ahead_90 : decode cX6_ahead 90 = .ok (.iload 4, 2) := by decide +kernel
theorem dX6_ahead_92 : decode cX6_ahead 92 = .ok (.iinc 4 1, 3) := by decide +kernel
theorem dX6_ahead_95 : decode cX6_ahead 95 = .ok (.iaload, 1) := by decide +kernel
theorem dX6_ahead_96 : decode cX6_ahead 96 = .ok (.iastore, 1) := by decide +kernel
theorem dX6_ahead_97 : decode cX6_ahead 97 = .ok (.iinc 5 1, 3) := by decide +kernel
theorem dX6_ahead_100 : decode cX6_ahead 100 = .ok (.goto (-39), 3) := by decide +kernel
theorem dX6_ahead_103 : decode cX6_ahead 103 = .ok (.aload_n 0, 1) := by decide +kernel
theorem dX6_ahead_104 : decode cX6_ahead 104 = .ok (.invokevirtual 145, 3) := by decide +kernel
theorem dX6_ahead_107 : decode cX6_ahead 107 = .ok (.aload_n 0, 1) := by decide +kernel
theorem dX6_ahead_108 : decode cX6_ahead 108 = .ok (.getfield 66, 3) := by decide +kernel
theorem dX6_ahead_111 : decode cX6_ahead 111 = .ok (.iload_n 1, 1) := by decide +kernel
theorem dX6_ahead_112 : decode cX6_ahead 112 = .ok (.iaload, 1) := by decide +kernel
theorem dX6_ahead_113 : decode cX6_ahead 113 = .ok (.ireturn, 1) := by decide +kernel
theorem dX6_swap_0 : decode cX6_swap 0 = .ok (.aload_n 0, 1) := by decide +kernel
theorem dX6_swap_1 : decode cX6_swap 1 = .ok (.iload_n 1, 1) := by decide +kernel
theorem dX6_swap_2 : decode cX6_swap 2 = .ok (.invokevirtual 101, 3) := by decide +kernel
theorem dX6_swap_5 : decode cX6_swap 5 = .ok (.ifCond .eq 39, 3) := by decide +kernel
theorem dX6_swap_8 : decode cX6_swap 8 = .ok (.aload_n 0, 1) := by decide +kernel
theorem dX6_swap_9 : decode cX6_swap 9 = .ok (.iload_n 3, 1) := by decide +kernel
theorem dX6_swap_10 : decode cX6_swap 10 = .ok (.invokevirtual 101, 3) := by decide +kernel
theorem dX6_swap_13 : decode cX6_swap 13 = .ok (.ifCond .eq 31, 3) := by decide +kernel
theorem dX6_swap_16 : decode cX6_swap 16 = .ok (.iload_n 2, 1) := by decide +kernel
theorem dX6_swap_17 : decode cX6_swap 17 = .ok (.iconst (-1), 1) := by decide +kernel
theorem dX6_swap_18 : decode cX6_swap 18 = .ok (.if_icmp .eq 11, 3) := by decide +kernel
theorem dX6_swap_21 : decode cX6_swap 21 = .ok (.aload_n 0, 1) := by decide +kernel
theorem dX6_swap_22 : decode cX6_swap 22 = .ok (.iload_n 2, 1) := by decide +kernel
theorem dX6_swap_23 : decode cX6_swap 23 = .ok (.invokevirtual 105, 3) := by decide +kernel
theorem dX6_swap_26 : decode cX6_swap 26 = .ok (.ifCond .eq 18, 3) := by decide +kernel
theorem dX6_swap_29 : decode cX6_swap 29 = .ok (.iload 4, 2) := by decide +kernel
theorem dX6_swap_31 : decode cX6_swap 31 = .ok (.iconst (-1), 1) := by decide +kernel
theorem dX6_swap_32 : decode cX6_swap 32 = .ok (.if_icmp .eq 14, 3) := by decide +kernel
theorem dX6_swap_35 : decode cX6_swap 35 = .ok (.aload_n 0, 1) := by decide +kernel
theorem dX6_swap_36 : decode cX6_swap 36 = .ok (.iload 4, 2) := by decide +kernel
theorem dX6_swap_38 : decode cX6_swap 38 = .ok (.invokevirtual 105, 3) := by decide +kernel
theorem dX6_swap_41 : decode cX6_swap 41 = .ok (.ifCond .ne 5, 3) := by decide +kernel
theorem dX6_swap_44 : decode cX6_swap 44 = .ok (.iconst (-1), 1) := by decide +kernel
theorem dX6_swap_45 : decode cX6_swap 45 = .ok (.ireturn, 1) := by decide +kernel
theorem dX6_swap_46 : decode cX6_swap 46 = .ok (.iload_n 1, 1) := by decide +kernel
theorem dX6_swap_47 : decode cX6_swap 47 = .ok (.iload_n 3, 1) := by decide +kernel
theorem dX6_swap_48 : decode cX6_swap 48 = .ok (.if_icmp .eq 14, 3) := by decide +kernel
theorem dX6_swap_51 : decode cX6_swap 51 = .ok (.iload_n 2, 1) := by decide +kernel
theorem dX6_swap_52 : decode cX6_swap 52 = .ok (.iconst (-1), 1) := by decide +kernel
theorem dX6_swap_53 : decode cX6_swap 53 = .ok (.if_icmp .ne 12, 3) := by decide +kernel
theorem dX6_swap_56 : decode cX6_swap 56 = .ok (.iload 4, 2) := by decide +kernel
theorem dX6_swap_58 : decode cX6_swap 58 = .ok (.iconst (-1), 1) := by decide +kernel
theorem dX6_swap_59 : decode cX6_swap 59 = .ok (.if_icmp .ne 6, 3) := by decide +kernel
theorem dX6_swap_62 : decode cX6_swap 62 = .ok (.bipush (-2), 2) := by decide +kernel
theorem dX6_swap_64 : decode cX6_swap 64 = .ok (.ireturn, 1) := by decide +kernel
theorem dX6_swap_65 : decode cX6_swap 65 = .ok (.aload_n 0, 1) := by decide +kernel
theorem dX6_swap_66 : decode cX6_swap 66 = .ok (.getfield 95, 3) := by decide +kernel
theorem dX6_swap_69 : decode cX6_swap 69 = .ok (.ifCond .eq 41, 3) := by decide +kernel
theorem dX6_swap_72 : decode cX6_swap 72 = .ok (.iload_n 2, 1) := by decide +kernel
theorem dX6_swap_73 : decode cX6_swap 73 = .ok (.iconst (-1), 1) := by decide +kernel
theorem dX6_swap_74 : decode cX6_swap 74 = .ok (.if_icmp .eq 16, 3) := by decide +kernel
theorem dX6_swap_77 : decode cX6_swap 77 = .ok (.aload_n 0, 1) := by decide +kernel
theorem dX6_swap_78 : decode cX6_swap 78 = .ok (.getfield 72, 3) := by decide +kernel
theorem dX6_swap_81 : decode cX6_swap 81 = .ok (.iload_n 1, 1) := by decide +kernel
theorem dX6_swap_82 : decode cX6_swap 82 = .ok (.iaload, 1) := by decide +kernel
theorem dX6_swap_83 : decode cX6_swap 83 = .ok (.iload_n 2, 1) := by decide +kernel
theorem dX6_swap_84 : decode cX6_swap 84 = .ok (.invokestatic 87, 3) := by decide +kernel
theorem dX6_swap_87 : decode cX6_swap 87 = .ok (.ifCond .eq 23, 3) := by decide +kernel
theorem dX6_swap_90 : decode cX6_swap 90 = .ok (.iload 4, 2) := by decide +kernel
theorem dX6_swap_92 : decode cX6_swap 92 = .ok (.iconst (-1), 1) := by decide +kernel
theorem dX6_swap_93 : decode cX6_swap 93 = .ok (.if_icmp .eq 20, 3) := by decide +kernel
theorem dX6_swap_96 : decode cX6_swap 96 = .ok (.aload_n 0, 1) := by decide +kernel
theorem dX6_swap_97 : decode cX6_swap 97 = .ok (.getfield 72, 3) := by decide +kernel
theorem dX6_swap_100 : decode cX6_swap 100 = .ok (.iload_n 3, 1) := by decide +kernel
theorem dX6_swap_101 : decode cX6_swap 101 = .ok (.iaload, 1) := by decide +kernel
theorem dX6_swap_102 : decode cX6_swap 102 = .ok (.iload 4, 2) := by decide +kernel
theorem dX6_swap_104 : decode cX6_swap 104 = .ok (.invokestatic 87, 3) := by decide +kernel
theorem dX6_swap_107 : decode cX6_swap 107 = .ok (.ifCond .ne 6, 3) := by decide +kernel
theorem dX6_swap_110 : decode cX6_swap 110 = .ok (.bipush (-3), 2) := by decide +kernel
theorem dX6_swap_112 : decode cX6_swap 112 = .ok (.ireturn, 1) := by decide +kernel
theorem dX6_swap_113 : decode cX6_swap 113 = .ok (.iload_n 2, 1) := by decide +kernel
theorem dX6_swap_114 : decode cX6_swap 114 = .ok (.iconst (-1), 1) := by decide +kernel
theorem dX6_swap_115 : decode cX6_swap 115 = .ok (.if_icmp .ne 7, 3) := by decide +kernel
theorem dX6_swap_118 : decode cX6_swap 118 = .ok (.iconst 0, 1) := by decide +kernel
theorem dX6_swap_119 : decode cX6_swap 119 = .ok (.goto 6, 3) := by decide +kernel
theorem dX6_swap_122 : decode cX6_swap 122 = .ok (.iconst 1, 1) := by decide +kernel
theorem dX6_swap_123 : decode cX6_swap 123 = .ok (.iload_n 2, 1) := by decide +kernel
theorem dX6_swap_124 : decode cX6_swap 124 = .ok (.ishl, 1) := by decide +kernel
theorem dX6_swap_125 : decode cX6_swap 125 = .ok (.istore 5, 2) := by decide +kernel
theorem dX6_swap_127 : decode cX6_swap 127 = .ok (.iload 4, 2) := by decide +kernel
theorem dX6_swap_129 : decode cX6_swap 129 = .ok (.iconst (-1), 1) := by decide +kernel
theorem dX6_swap_130 : decode cX6_swap 130 = .ok (.if_icmp .ne 7, 3) := by decide +kernel
theorem dX6_swap_133 : decode cX6_swap 133 = .ok (.iconst 0, 1) := by decide +kernel
theorem dX6_swap_134 : decode cX6_swap 134 = .ok (.goto 7, 3) := by decide +kernel
theorem dX6_swap_137 : decode cX6_swap 137 = .ok (.iconst 1, 1) := by decide +kernel
theorem dX6_swap_138 : decode cX6_swap 138 = .ok (.iload 4, 2) := by decide +kernel
theorem dX6_swap_140 : decode cX6_swap 140 = .ok (.ishl, 1) := by decide +kernel
theorem dX6_swap_141 : decode cX6_swap 141 = .ok (.istore 6, 2) := by decide +kernel
theorem dX6_swap_143 : decode cX6_swap 143 = .ok (.aload_n 0, 1) := by decide +kernel
theorem dX6_swap_144 : decode cX6_swap 144 = .ok (.getfield 72, 3) := by decide +kernel
theorem dX6_swap_147 : decode cX6_swap 147 = .ok (.iload_n 1, 1) := by decide +kernel
theorem dX6_swap_148 : decode cX6_swap 148 = .ok (.iaload, 1) := by decide +kernel
theorem dX6_swap_149 : decode cX6_swap 149 = .ok (.iload 5, 2) := by decide +kernel
theorem dX6_swap_151 : decode cX6_swap 151 = .ok (.iconst (-1), 1) := by decide +kernel
theorem dX6_swap_152 : decode cX6_swap 152 = .ok (.ixor, 1) := by decide +kernel
theorem dX6_swap_153 : decode cX6_swap 153 = .ok (.iand, 1) := by decide +kernel
theorem dX6_swap_154 : decode cX6_swap 154 = .ok (.iload 6, 2) := by decide +kernel
theorem dX6_swap_156 : decode cX6_swap 156 = .ok (.ior, 1) := by decide +kernel
theorem dX6_swap_157 : decode cX6_swap 157 = .ok (.istore 7, 2) := by decide +kernel
theorem dX6_swap_159 : decode cX6_swap 159 = .ok (.aload_n 0, 1) := by decide +kernel
theorem dX6_swap_160 : decode cX6_swap 160 = .ok (.getfield 72, 3) := by decide +kernel
theorem dX6_swap_163 : decode cX6_swap 163 = .ok (.iload_n 3, 1) := by decide +kernel
theorem dX6_swap_164 : decode cX6_swap 164 = .ok (.iaload, 1) := by decide +kernel
theorem dX6_swap_165 : decode cX6_swap 165 = .ok (.iload 6, 2) := by decide +kernel
theorem dX6_swap_167 : decode cX6_swap 167 = .ok (.iconst (-1), 1) := by decide +kernel
theorem dX6_swap_168 : decode cX6_swap 168 = .ok (.ixor, 1) := by decide +kernel
theorem dX6_swap_169 : decode cX6_swap 169 = .ok (.iand, 1) := by decide +kernel
theorem dX6_swap_170 : decode cX6_swap 170 = .ok (.iload 5, 2) := by decide +kernel
theorem dX6_swap_172 : decode cX6_swap 172 = .ok (.ior, 1) := by decide +kernel
theorem dX6_swap_173 : decode cX6_swap 173 = .ok (.istore 8, 2) := by decide +kernel
theorem dX6_swap_175 : decode cX6_swap 175 = .ok (.aload_n 0, 1) := by decide +kernel
theorem dX6_swap_176 : decode cX6_swap 176 = .ok (.iload_n 1, 1) := by decide +kernel
theorem dX6_swap_177 : decode cX6_swap 177 = .ok (.iload 7, 2) := by decide +kernel
theorem dX6_swap_179 : decode cX6_swap 179 = .ok (.invokevirtual 123, 3) := by decide +kernel
theorem dX6_swap_182 : decode cX6_swap 182 = .ok (.ifCond .ne 13, 3) := by decide +kernel
theorem dX6_swap_185 : decode cX6_swap 185 = .ok (.aload_n 0, 1) := by decide +kernel
theorem dX6_swap_186 : decode cX6_swap 186 = .ok (.iload_n 3, 1) := by decide +kernel
theorem dX6_swap_187 : decode cX6_swap 187 = .ok (.iload 8, 2) := by decide +kernel
theorem dX6_swap_189 : decode cX6_swap 189 = .ok (.invokevirtual 123, 3) := by decide +kernel
theorem dX6_swap_192 : decode cX6_swap 192 = .ok (.ifCond .eq 6, 3) := by decide +kernel
theorem dX6_swap_195 : decode cX6_swap 195 = .ok (.bipush (-3), 2) := by decide +kernel
theorem dX6_swap_197 : decode cX6_swap 197 = .ok (.ireturn, 1) := by decide +kernel
theorem dX6_swap_198 : decode cX6_swap 198 = .ok (.aload_n 0, 1) := by decide +kernel
theorem dX6_swap_199 : decode cX6_swap 199 = .ok (.iload_n 1, 1) := by decide +kernel
theorem dX6_swap_200 : decode cX6_swap 200 = .ok (.aload_n 0, 1) := by decide +kernel
theorem dX6_swap_201 : decode cX6_swap 201 = .ok (.getfield 72, 3) := by decide +kernel
theorem dX6_swap_204 : decode cX6_swap 204 = .ok (.iload_n 1, 1) := by decide +kernel
theorem dX6_swap_205 : decode cX6_swap 205 = .ok (.iaload, 1) := by decide +kernel
theorem dX6_swap_206 : decode cX6_swap 206 = .ok (.iload 7, 2) := by decide +kernel
theorem dX6_swap_208 : decode cX6_swap 208 = .ok (.invokevirtual 135, 3) := by decide +kernel
theorem dX6_swap_211 : decode cX6_swap 211 = .ok (.iconst 2, 1) := by decide +kernel
theorem dX6_swap_212 : decode cX6_swap 212 = .ok (.if_icmp .eq 24, 3) := by decide +kernel
theorem dX6_swap_215 : decode cX6_swap 215 = .ok (.aload_n 0, 1) := by decide +kernel
theorem dX6_swap_216 : decode cX6_swap 216 = .ok (.iload_n 3, 1) := by decide +kernel
theorem dX6_swap_217 : decode cX6_swap 217 = .ok (.aload_n 0, 1) := by decide +kernel
theorem dX6_swap_218 : decode cX6_swap 218 = .ok (.getfield 72, 3) := by decide +kernel
theorem dX6_swap_221 : decode cX6_swap 221 = .ok (.iload_n 3, 1) := by decide +kernel
theorem dX6_swap_222 : decode cX6_swap 222 = .ok (.iaload, 1) := by decide +kernel
theorem dX6_swap_223 : decode cX6_swap 223 = .ok (.iload 8, 2) := by decide +kernel
theorem dX6_swap_225 : decode cX6_swap 225 = .ok (.invokevirtual 135, 3) := by decide +kernel
theorem dX6_swap_228 : decode cX6_swap 228 = .ok (.iconst 2, 1) := by decide +kernel
theorem dX6_swap_229 : decode cX6_swap 229 = .ok (.if_icmp .eq 7, 3) := by decide +kernel
theorem dX6_swap_232 : decode cX6_swap 232 = .ok (.iconst 1, 1) := by decide +kernel
theorem dX6_swap_233 : decode cX6_swap 233 = .ok (.goto 4, 3) := by decide +kernel
theorem dX6_swap_236 : decode cX6_swap 236 = .ok (.iconst 0, 1) := by decide +kernel
theorem dX6_swap_237 : decode cX6_swap 237 = .ok (.istore 9, 2) := by decide +kernel
theorem dX6_swap_239 : decode cX6_swap 239 = .ok (.aload_n 0, 1) := by decide +kernel
theorem dX6_swap_240 : decode cX6_swap 240 = .ok (.getfield 72, 3) := by decide +kernel
theorem dX6_swap_243 : decode cX6_swap 243 = .ok (.iload_n 1, 1) := by decide +kernel
theorem dX6_swap_244 : decode cX6_swap 244 = .ok (.iload 7, 2) := by decide +kernel
theorem dX6_swap_246 : decode cX6_swap 246 = .ok (.iastore, 1) := by decide +kernel
theorem dX6_swap_247 : decode cX6_swap 247 = .ok (.aload_n 0, 1) := by decide +kernel
theorem dX6_swap_248 : decode cX6_swap 248 = .ok (.getfield 72, 3) := by decide +kernel
theorem dX6_swap_251 : decode cX6_swap 251 = .ok (.iload_n 3, 1) := by decide +kernel
theorem dX6_swap_252 : decode cX6_swap 252 = .ok (.iload 8, 2) := by decide +kernel
theorem dX6_swap_254 : decode cX6_swap 254 = .ok (.iastore, 1) := by decide +kernel
theorem dX6_swap_255 : decode cX6_swap 255 = .ok (.aload_n 0, 1) := by decide +kernel
theorem dX6_swap_256 : decode cX6_swap 256 = .ok (.iconst 0, 1) := by decide +kernel
theorem dX6_swap_257 : decode cX6_swap 257 = .ok (.putfield 148, 3) := by decide +kernel
theorem dX6_swap_260 : decode cX6_swap 260 = .ok (.iload 9, 2) := by decide +kernel
theorem dX6_swap_262 : decode cX6_swap 262 = .ok (.ifCond .eq 7, 3) := by decide +kernel
theorem dX6_swap_265 : decode cX6_swap 265 = .ok (.iconst 1, 1) := by decide +kernel
theorem dX6_swap_266 : decode cX6_swap 266 = .ok (.goto 4, 3) := by decide +kernel
theorem dX6_swap_269 : decode cX6_swap 269 = .ok (.iconst 0, 1) := by decide +kernel
theorem dX6_swap_270 : decode cX6_swap 270 = .ok (.ireturn, 1) := by decide +kernel
theorem dX6_sick_0 : decode cX6_sick 0 = .ok (.aload_n 0, 1) := by decide +kernel
theorem dX6_sick_1 : decode cX6_sick 1 = .ok (.iload_n 1, 1) := by decide +kernel
theorem dX6_sick_2 : decode cX6_sick 2 = .ok (.invokevirtual 101, 3) := by decide +kernel
theorem dX6_sick_5 : decode cX6_sick 5 = .ok (.ifCond .eq 13, 3) := by decide +kernel
theorem dX6_sick_8 : decode cX6_sick 8 = .ok (.iload_n 2, 1) := by decide +kernel
theorem dX6_sick_9 : decode cX6_sick 9 = .ok (.ifCond .lt 9, 3) := by decide +kernel
theorem dX6_sick_12 : decode cX6_sick 12 = .ok (.iload_n 2, 1) := by decide +kernel
theorem dX6_sick_13 : decode cX6_sick 13 = .ok (.bipush 13, 2) := by decide +kernel
theorem dX6_sick_15 : decode cX6_sick 15 = .ok (.if_icmp .le 5, 3) := by decide +kernel
