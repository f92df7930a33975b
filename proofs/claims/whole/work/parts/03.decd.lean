theorem dX13_ways_119 : decode cX13_ways 119 = .ok (.iconst 2, 1) := by decide +kernel
theorem dX13_ways_120 : decode cX13_ways 120 = .ok (.if_icmp .ge 47, 3) := by decide +kernel
theorem dX13_ways_123 : decode cX13_ways 123 = .ok (.aload_n 0, 1) := by decide +kernel
theorem dX13_ways_124 : decode cX13_ways 124 = .ok (.iload_n 3, 1) := by decide +kernel
theorem dX13_ways_125 : decode cX13_ways 125 = .ok (.iconst 1, 1) := by decide +kernel
theorem dX13_ways_126 : decode cX13_ways 126 = .ok (.invokevirtual 323, 3) := by decide +kernel
theorem dX13_ways_129 : decode cX13_ways 129 = .ok (.iload_n 2, 1) := by decide +kernel
theorem dX13_ways_130 : decode cX13_ways 130 = .ok (.if_icmp .lt 37, 3) := by decide +kernel
theorem dX13_ways_133 : decode cX13_ways 133 = .ok (.aload_n 0, 1) := by decide +kernel
theorem dX13_ways_134 : decode cX13_ways 134 = .ok (.getfield 141, 3) := by decide +kernel
theorem dX13_ways_137 : decode cX13_ways 137 = .ok (.iload_n 3, 1) := by decide +kernel
theorem dX13_ways_138 : decode cX13_ways 138 = .ok (.dup2, 1) := by decide +kernel
theorem dX13_ways_139 : decode cX13_ways 139 = .ok (.iaload, 1) := by decide +kernel
theorem dX13_ways_140 : decode cX13_ways 140 = .ok (.iconst 1, 1) := by decide +kernel
theorem dX13_ways_141 : decode cX13_ways 141 = .ok (.iadd, 1) := by decide +kernel
theorem dX13_ways_142 : decode cX13_ways 142 = .ok (.iastore, 1) := by decide +kernel
theorem dX13_ways_143 : decode cX13_ways 143 = .ok (.aload_n 0, 1) := by decide +kernel
theorem dX13_ways_144 : decode cX13_ways 144 = .ok (.getfield 144, 3) := by decide +kernel
theorem dX13_ways_147 : decode cX13_ways 147 = .ok (.iload_n 1, 1) := by decide +kernel
theorem dX13_ways_148 : decode cX13_ways 148 = .ok (.iload_n 3, 1) := by decide +kernel
theorem dX13_ways_149 : decode cX13_ways 149 = .ok (.iastore, 1) := by decide +kernel
theorem dX13_ways_150 : decode cX13_ways 150 = .ok (.aload_n 0, 1) := by decide +kernel
theorem dX13_ways_151 : decode cX13_ways 151 = .ok (.iload_n 1, 1) := by decide +kernel
theorem dX13_ways_152 : decode cX13_ways 152 = .ok (.iconst 1, 1) := by decide +kernel
theorem dX13_ways_153 : decode cX13_ways 153 = .ok (.iadd, 1) := by decide +kernel
theorem dX13_ways_154 : decode cX13_ways 154 = .ok (.invokevirtual 430, 3) := by decide +kernel
theorem dX13_ways_157 : decode cX13_ways 157 = .ok (.aload_n 0, 1) := by decide +kernel
theorem dX13_ways_158 : decode cX13_ways 158 = .ok (.getfield 141, 3) := by decide +kernel
theorem dX13_ways_161 : decode cX13_ways 161 = .ok (.iload_n 3, 1) := by decide +kernel
theorem dX13_ways_162 : decode cX13_ways 162 = .ok (.dup2, 1) := by decide +kernel
theorem dX13_ways_163 : decode cX13_ways 163 = .ok (.iaload, 1) := by decide +kernel
theorem dX13_ways_164 : decode cX13_ways 164 = .ok (.iconst 1, 1) := by decide +kernel
theorem dX13_ways_165 : decode cX13_ways 165 = .ok (.isub, 1) := by decide +kernel
theorem dX13_ways_166 : decode cX13_ways 166 = .ok (.iastore, 1) := by decide +kernel
theorem dX13_ways_167 : decode cX13_ways 167 = .ok (.iinc 3 1, 3) := by decide +kernel
theorem dX13_ways_170 : decode cX13_ways 170 = .ok (.goto (-65), 3) := by decide +kernel
theorem dX13_ways_173 : decode cX13_ways 173 = .ok (.return_, 1) := by decide +kernel
theorem dX13_findWays_0 : decode cX13_findWays 0 = .ok (.aload_n 0, 1) := by decide +kernel
theorem dX13_findWays_1 : decode cX13_findWays 1 = .ok (.iconst 0, 1) := by decide +kernel
theorem dX13_findWays_2 : decode cX13_findWays 2 = .ok (.putfield 427, 3) := by decide +kernel
theorem dX13_findWays_5 : decode cX13_findWays 5 = .ok (.iconst 0, 1) := by decide +kernel
theorem dX13_findWays_6 : decode cX13_findWays 6 = .ok (.istore_n 1, 1) := by decide +kernel
theorem dX13_findWays_7 : decode cX13_findWays 7 = .ok (.iload_n 1, 1) := by decide +kernel
theorem dX13_findWays_8 : decode cX13_findWays 8 = .ok (.bipush 8, 2) := by decide +kernel
theorem dX13_findWays_10 : decode cX13_findWays 10 = .ok (.if_icmp .ge 16, 3) := by decide +kernel
theorem dX13_findWays_13 : decode cX13_findWays 13 = .ok (.aload_n 0, 1) := by decide +kernel
theorem dX13_findWays_14 : decode cX13_findWays 14 = .ok (.getfield 150, 3) := by decide +kernel
theorem dX13_findWays_17 : decode cX13_findWays 17 = .ok (.iload_n 1, 1) := by decide +kernel
theorem dX13_findWays_18 : decode cX13_findWays 18 = .ok (.iconst 0, 1) := by decide +kernel
theorem dX13_findWays_19 : decode cX13_findWays 19 = .ok (.iastore, 1) := by decide +kernel
theorem dX13_findWays_20 : decode cX13_findWays 20 = .ok (.iinc 1 1, 3) := by decide +kernel
theorem dX13_findWays_23 : decode cX13_findWays 23 = .ok (.goto (-16), 3) := by decide +kernel
theorem dX13_findWays_26 : decode cX13_findWays 26 = .ok (.aload_n 0, 1) := by decide +kernel
theorem dX13_findWays_27 : decode cX13_findWays 27 = .ok (.iconst 1, 1) := by decide +kernel
theorem dX13_findWays_28 : decode cX13_findWays 28 = .ok (.invokevirtual 430, 3) := by decide +kernel
theorem dX13_findWays_31 : decode cX13_findWays 31 = .ok (.return_, 1) := by decide +kernel
theorem dX13_painters_0 : decode cX13_painters 0 = .ok (.aload_n 0, 1) := by decide +kernel
theorem dX13_painters_1 : decode cX13_painters 1 = .ok (.iconst 0, 1) := by decide +kernel
theorem dX13_painters_2 : decode cX13_painters 2 = .ok (.putfield 1, 3) := by decide +kernel
theorem dX13_painters_5 : decode cX13_painters 5 = .ok (.aload_n 0, 1) := by decide +kernel
theorem dX13_painters_6 : decode cX13_painters 6 = .ok (.invokevirtual 433, 3) := by decide +kernel
theorem dX13_painters_9 : decode cX13_painters 9 = .ok (.aload_n 0, 1) := by decide +kernel
theorem dX13_painters_10 : decode cX13_painters 10 = .ok (.getfield 427, 3) := by decide +kernel
theorem dX13_painters_13 : decode cX13_painters 13 = .ok (.ireturn, 1) := by decide +kernel
theorem dX13_painter_0 : decode cX13_painter 0 = .ok (.aload_n 0, 1) := by decide +kernel
theorem dX13_painter_1 : decode cX13_painter 1 = .ok (.iconst 0, 1) := by decide +kernel
theorem dX13_painter_2 : decode cX13_painter 2 = .ok (.putfield 1, 3) := by decide +kernel
theorem dX13_painter_5 : decode cX13_painter 5 = .ok (.iload_n 1, 1) := by decide +kernel
theorem dX13_painter_6 : decode cX13_painter 6 = .ok (.ifCond .eq 12, 3) := by decide +kernel
theorem dX13_painter_9 : decode cX13_painter 9 = .ok (.aload_n 0, 1) := by decide +kernel
theorem dX13_painter_10 : decode cX13_painter 10 = .ok (.iconst 0, 1) := by decide +kernel
theorem dX13_painter_11 : decode cX13_painter 11 = .ok (.iload_n 1, 1) := by decide +kernel
theorem dX13_painter_12 : decode cX13_painter 12 = .ok (.invokevirtual 345, 3) := by decide +kernel
theorem dX13_painter_15 : decode cX13_painter 15 = .ok (.ifCond .ne 5, 3) := by decide +kernel
theorem dX13_painter_18 : decode cX13_painter 18 = .ok (.iconst (-1), 1) := by decide +kernel
theorem dX13_painter_19 : decode cX13_painter 19 = .ok (.ireturn, 1) := by decide +kernel
theorem dX13_painter_20 : decode cX13_painter 20 = .ok (.aload_n 0, 1) := by decide +kernel
theorem dX13_painter_21 : decode cX13_painter 21 = .ok (.invokevirtual 433, 3) := by decide +kernel
theorem dX13_painter_24 : decode cX13_painter 24 = .ok (.aload_n 0, 1) := by decide +kernel
theorem dX13_painter_25 : decode cX13_painter 25 = .ok (.getfield 427, 3) := by decide +kernel
theorem dX13_painter_28 : decode cX13_painter 28 = .ok (.ifCond .eq 20, 3) := by decide +kernel
theorem dX13_painter_31 : decode cX13_painter 31 = .ok (.iload_n 2, 1) := by decide +kernel
theorem dX13_painter_32 : decode cX13_painter 32 = .ok (.ifCond .eq 20, 3) := by decide +kernel
theorem dX13_painter_35 : decode cX13_painter 35 = .ok (.aload_n 0, 1) := by decide +kernel
theorem dX13_painter_36 : decode cX13_painter 36 = .ok (.getfield 150, 3) := by decide +kernel
theorem dX13_painter_39 : decode cX13_painter 39 = .ok (.iload_n 1, 1) := by decide +kernel
theorem dX13_painter_40 : decode cX13_painter 40 = .ok (.iaload, 1) := by decide +kernel
theorem dX13_painter_41 : decode cX13_painter 41 = .ok (.invokestatic 339, 3) := by decide +kernel
theorem dX13_painter_44 : decode cX13_painter 44 = .ok (.iconst 1, 1) := by decide +kernel
theorem dX13_painter_45 : decode cX13_painter 45 = .ok (.if_icmp .le 7, 3) := by decide +kernel
theorem dX13_painter_48 : decode cX13_painter 48 = .ok (.iconst (-1), 1) := by decide +kernel
theorem dX13_painter_49 : decode cX13_painter 49 = .ok (.goto 9, 3) := by decide +kernel
theorem dX13_painter_52 : decode cX13_painter 52 = .ok (.aload_n 0, 1) := by decide +kernel
theorem dX13_painter_53 : decode cX13_painter 53 = .ok (.getfield 147, 3) := by decide +kernel
theorem dX13_painter_56 : decode cX13_painter 56 = .ok (.iload_n 1, 1) := by decide +kernel
theorem dX13_painter_57 : decode cX13_painter 57 = .ok (.iaload, 1) := by decide +kernel
theorem dX13_painter_58 : decode cX13_painter 58 = .ok (.ireturn, 1) := by decide +kernel
theorem dX13_knownBy_0 : decode cX13_knownBy 0 = .ok (.aload_n 0, 1) := by decide +kernel
theorem dX13_knownBy_1 : decode cX13_knownBy 1 = .ok (.getfield 95, 3) := by decide +kernel
theorem dX13_knownBy_4 : decode cX13_knownBy 4 = .ok (.bipush 26, 2) := by decide +kernel
theorem dX13_knownBy_6 : decode cX13_knownBy 6 = .ok (.iload_n 1, 1) := by decide +kernel
theorem dX13_knownBy_7 : decode cX13_knownBy 7 = .ok (.iadd, 1) := by decide +kernel
theorem dX13_knownBy_8 : decode cX13_knownBy 8 = .ok (.iaload, 1) := by decide +kernel
theorem dX13_knownBy_9 : decode cX13_knownBy 9 = .ok (.istore_n 3, 1) := by decide +kernel
theorem dX13_knownBy_10 : decode cX13_knownBy 10 = .ok (.iconst 0, 1) := by decide +kernel
theorem dX13_knownBy_11 : decode cX13_knownBy 11 = .ok (.istore 4, 2) := by decide +kernel
theorem dX13_knownBy_13 : decode cX13_knownBy 13 = .ok (.iconst 0, 1) := by decide +kernel
theorem dX13_knownBy_14 : decode cX13_knownBy 14 = .ok (.istore 5, 2) := by decide +kernel
theorem dX13_knownBy_16 : decode cX13_knownBy 16 = .ok (.iload 5, 2) := by decide +kernel
theorem dX13_knownBy_18 : decode cX13_knownBy 18 = .ok (.aload_n 0, 1) := by decide +kernel
theorem dX13_knownBy_19 : decode cX13_knownBy 19 = .ok (.getfield 125, 3) := by decide +kernel
theorem dX13_knownBy_22 : decode cX13_knownBy 22 = .ok (.iconst 2, 1) := by decide +kernel
theorem dX13_knownBy_23 : decode cX13_knownBy 23 = .ok (.iaload, 1) := by decide +kernel
theorem dX13_knownBy_24 : decode cX13_knownBy 24 = .ok (.if_icmp .ge 108, 3) := by decide +kernel
theorem dX13_knownBy_27 : decode cX13_knownBy 27 = .ok (.iconst 1, 1) := by decide +kernel
theorem dX13_knownBy_28 : decode cX13_knownBy 28 = .ok (.istore 6, 2) := by decide +kernel
theorem dX13_knownBy_30 : decode cX13_knownBy 30 = .ok (.iconst 0, 1) := by decide +kernel
theorem dX13_knownBy_31 : decode cX13_knownBy 31 = .ok (.istore 7, 2) := by decide +kernel
theorem dX13_knownBy_33 : decode cX13_knownBy 33 = .ok (.iload 7, 2) := by decide +kernel
theorem dX13_knownBy_35 : decode cX13_knownBy 35 = .ok (.aload_n 0, 1) := by decide +kernel
theorem dX13_knownBy_36 : decode cX13_knownBy 36 = .ok (.getfield 125, 3) := by decide +kernel
theorem dX13_knownBy_39 : decode cX13_knownBy 39 = .ok (.iconst 2, 1) := by decide +kernel
theorem dX13_knownBy_40 : decode cX13_knownBy 40 = .ok (.iaload, 1) := by decide +kernel
theorem dX13_knownBy_41 : decode cX13_knownBy 41 = .ok (.if_icmp .ge 67, 3) := by decide +kernel
theorem dX13_knownBy_44 : decode cX13_knownBy 44 = .ok (.aload_n 0, 1) := by decide +kernel
theorem dX13_knownBy_45 : decode cX13_knownBy 45 = .ok (.getfield 125, 3) := by decide +kernel
theorem dX13_knownBy_48 : decode cX13_knownBy 48 = .ok (.iconst 3, 1) := by decide +kernel
theorem dX13_knownBy_49 : decode cX13_knownBy 49 = .ok (.iload 5, 2) := by decide +kernel
theorem dX13_knownBy_51 : decode cX13_knownBy 51 = .ok (.iadd, 1) := by decide +kernel
theorem dX13_knownBy_52 : decode cX13_knownBy 52 = .ok (.iaload, 1) := by decide +kernel
theorem dX13_knownBy_53 : decode cX13_knownBy 53 = .ok (.aload_n 0, 1) := by decide +kernel
theorem dX13_knownBy_54 : decode cX13_knownBy 54 = .ok (.getfield 125, 3) := by decide +kernel
theorem dX13_knownBy_57 : decode cX13_knownBy 57 = .ok (.iconst 3, 1) := by decide +kernel
theorem dX13_knownBy_58 : decode cX13_knownBy 58 = .ok (.iload 7, 2) := by decide +kernel
theorem dX13_knownBy_60 : decode cX13_knownBy 60 = .ok (.iadd, 1) := by decide +kernel
theorem dX13_knownBy_61 : decode cX13_knownBy 61 = .ok (.iaload, 1) := by decide +kernel
theorem dX13_knownBy_62 : decode cX13_knownBy 62 = .ok (.ixor, 1) := by decide +kernel
theorem dX13_knownBy_63 : decode cX13_knownBy 63 = .ok (.iload_n 3, 1) := by decide +kernel
theorem dX13_knownBy_64 : decode cX13_knownBy 64 = .ok (.iand, 1) := by decide +kernel
theorem dX13_knownBy_65 : decode cX13_knownBy 65 = .ok (.ifCond .ne 7, 3) := by decide +kernel
theorem dX13_knownBy_68 : decode cX13_knownBy 68 = .ok (.iconst 1, 1) := by decide +kernel
theorem dX13_knownBy_69 : decode cX13_knownBy 69 = .ok (.goto 4, 3) := by decide +kernel
theorem dX13_knownBy_72 : decode cX13_knownBy 72 = .ok (.iconst 0, 1) := by decide +kernel
theorem dX13_knownBy_73 : decode cX13_knownBy 73 = .ok (.istore 8, 2) := by decide +kernel
theorem dX13_knownBy_75 : decode cX13_knownBy 75 = .ok (.iload 6, 2) := by decide +kernel
theorem dX13_knownBy_77 : decode cX13_knownBy 77 = .ok (.ifCond .eq 22, 3) := by decide +kernel
theorem dX13_knownBy_80 : decode cX13_knownBy 80 = .ok (.iload 8, 2) := by decide +kernel
theorem dX13_knownBy_82 : decode cX13_knownBy 82 = .ok (.ifCond .eq 13, 3) := by decide +kernel
theorem dX13_knownBy_85 : decode cX13_knownBy 85 = .ok (.iload_n 2, 1) := by decide +kernel
theorem dX13_knownBy_86 : decode cX13_knownBy 86 = .ok (.iload 7, 2) := by decide +kernel
theorem dX13_knownBy_88 : decode cX13_knownBy 88 = .ok (.ishr, 1) := by decide +kernel
theorem dX13_knownBy_89 : decode cX13_knownBy 89 = .ok (.iconst 1, 1) := by decide +kernel
theorem dX13_knownBy_90 : decode cX13_knownBy 90 = .ok (.iand, 1) := by decide +kernel
theorem dX13_knownBy_91 : decode cX13_knownBy 91 = .ok (.iconst 1, 1) := by decide +kernel
theorem dX13_knownBy_92 : decode cX13_knownBy 92 = .ok (.if_icmp .ne 7, 3) := by decide +kernel
theorem dX13_knownBy_95 : decode cX13_knownBy 95 = .ok (.iconst 1, 1) := by decide +kernel
theorem dX13_knownBy_96 : decode cX13_knownBy 96 = .ok (.goto 4, 3) := by decide +kernel
theorem dX13_knownBy_99 : decode cX13_knownBy 99 = .ok (.iconst 0, 1) := by decide +kernel
theorem dX13_knownBy_100 : decode cX13_knownBy 100 = .ok (.istore 6, 2) := by decide +kernel
theorem dX13_knownBy_102 : decode cX13_knownBy 102 = .ok (.iinc 7 1, 3) := by decide +kernel
theorem dX13_knownBy_105 : decode cX13_knownBy 105 = .ok (.goto (-72), 3) := by decide +kernel
theorem dX13_knownBy_108 : decode cX13_knownBy 108 = .ok (.iload 4, 2) := by decide +kernel
theorem dX13_knownBy_110 : decode cX13_knownBy 110 = .ok (.iload 6, 2) := by decide +kernel
theorem dX13_knownBy_112 : decode cX13_knownBy 112 = .ok (.ifCond .eq 10, 3) := by decide +kernel
theorem dX13_knownBy_115 : decode cX13_knownBy 115 = .ok (.iconst 1, 1) := by decide +kernel
theorem dX13_knownBy_116 : decode cX13_knownBy 116 = .ok (.iload 5, 2) := by decide +kernel
theorem dX13_knownBy_118 : decode cX13_knownBy 118 = .ok (.ishl, 1) := by decide +kernel
theorem dX13_knownBy_119 : decode cX13_knownBy 119 = .ok (.goto 4, 3) := by decide +kernel
theorem dX13_knownBy_122 : decode cX13_knownBy 122 = .ok (.iconst 0, 1) := by decide +kernel
theorem dX13_knownBy_123 : decode cX13_knownBy 123 = .ok (.ior, 1) := by decide +kernel
theorem dX13_knownBy_124 : decode cX13_knownBy 124 = .ok (.istore 4, 2) := by decide +kernel
theorem dX13_knownBy_126 : decode cX13_knownBy 126 = .ok (.iinc 5 1, 3) := by decide +kernel
theorem dX13_knownBy_129 : decode cX13_knownBy 129 = .ok (.goto (-113), 3) := by decide +kernel
theorem dX13_knownBy_132 : decode cX13_knownBy 132 = .ok (.iload 4, 2) := by decide +kernel
theorem dX13_knownBy_134 : decode cX13_knownBy 134 = .ok (.ireturn, 1) := by decide +kernel
theorem dX13_knownByAll_0 : decode cX13_knownByAll 0 = .ok (.iload_n 1, 1) := by decide +kernel
theorem dX13_knownByAll_1 : decode cX13_knownByAll 1 = .ok (.istore_n 2, 1) := by decide +kernel
theorem dX13_knownByAll_2 : decode cX13_knownByAll 2 = .ok (.iconst 0, 1) := by decide +kernel
theorem dX13_knownByAll_3 : decode cX13_knownByAll 3 = .ok (.istore_n 3, 1) := by decide +kernel
theorem dX13_knownByAll_4 : decode cX13_knownByAll 4 = .ok (.iload_n 3, 1) := by decide +kernel
theorem dX13_knownByAll_5 : decode cX13_knownByAll 5 = .ok (.aload_n 0, 1) := by decide +kernel
theorem dX13_knownByAll_6 : decode cX13_knownByAll 6 = .ok (.invokevirtual 436, 3) := by decide +kernel
theorem dX13_knownByAll_9 : decode cX13_knownByAll 9 = .ok (.if_icmp .ge 18, 3) := by decide +kernel
theorem dX13_knownByAll_12 : decode cX13_knownByAll 12 = .ok (.iload_n 2, 1) := by decide +kernel
theorem dX13_knownByAll_13 : decode cX13_knownByAll 13 = .ok (.aload_n 0, 1) := by decide +kernel
theorem dX13_knownByAll_14 : decode cX13_knownByAll 14 = .ok (.iload_n 3, 1) := by decide +kernel
theorem dX13_knownByAll_15 : decode cX13_knownByAll 15 = .ok (.iload_n 1, 1) := by decide +kernel
theorem dX13_knownByAll_16 : decode cX13_knownByAll 16 = .ok (.invokevirtual 439, 3) := by decide +kernel
theorem dX13_knownByAll_19 : decode cX13_knownByAll 19 = .ok (.iand, 1) := by decide +kernel
theorem dX13_knownByAll_20 : decode cX13_knownByAll 20 = .ok (.istore_n 2, 1) := by decide +kernel
theorem dX13_knownByAll_21 : decode cX13_knownByAll 21 = .ok (.iinc 3 1, 3) := by decide +kernel
theorem dX13_knownByAll_24 : decode cX13_knownByAll 24 = .ok (.goto (-20), 3) := by decide +kernel
theorem dX13_knownByAll_27 : decode cX13_knownByAll 27 = .ok (.iload_n 2, 1) := by decide +kernel
theorem dX13_knownByAll_28 : decode cX13_knownByAll 28 = .ok (.ireturn, 1) := by decide +kernel
theorem dX13_knows_0 : decode cX13_knows 0 = .ok (.aload_n 0, 1) := by decide +kernel
theorem dX13_knows_1 : decode cX13_knows 1 = .ok (.iconst 0, 1) := by decide +kernel
theorem dX13_knows_2 : decode cX13_knows 2 = .ok (.putfield 1, 3) := by decide +kernel
theorem dX13_knows_5 : decode cX13_knows 5 = .ok (.iload_n 1, 1) := by decide +kernel
theorem dX13_knows_6 : decode cX13_knows 6 = .ok (.iconst 0, 1) := by decide +kernel
theorem dX13_knows_7 : decode cX13_knows 7 = .ok (.aload_n 0, 1) := by decide +kernel
theorem dX13_knows_8 : decode cX13_knows 8 = .ok (.invokevirtual 436, 3) := by decide +kernel
theorem dX13_knows_11 : decode cX13_knows 11 = .ok (.iconst 1, 1) := by decide +kernel
theorem dX13_knows_12 : decode cX13_knows 12 = .ok (.isub, 1) := by decide +kernel
theorem dX13_knows_13 : decode cX13_knows 13 = .ok (.invokestatic 231, 3) := by decide +kernel
theorem dX13_knows_16 : decode cX13_knows 16 = .ok (.ifCond .eq 20, 3) := by decide +kernel
theorem dX13_knows_19 : decode cX13_knows 19 = .ok (.aload_n 0, 1) := by decide +kernel
theorem dX13_knows_20 : decode cX13_knows 20 = .ok (.iload_n 2, 1) := by decide +kernel
theorem dX13_knows_21 : decode cX13_knows 21 = .ok (.invokevirtual 421, 3) := by decide +kernel
theorem dX13_knows_24 : decode cX13_knows 24 = .ok (.ifCond .eq 12, 3) := by decide +kernel
theorem dX13_knows_27 : decode cX13_knows 27 = .ok (.aload_n 0, 1) := by decide +kernel
theorem dX13_knows_28 : decode cX13_knows 28 = .ok (.iload_n 1, 1) := by decide +kernel
theorem dX13_knows_29 : decode cX13_knows 29 = .ok (.iload_n 2, 1) := by decide +kernel
theorem dX13_knows_30 : decode cX13_knows 30 = .ok (.invokevirtual 439, 3) := by decide +kernel
theorem dX13_knows_33 : decode cX13_knows 33 = .ok (.goto 4, 3) := by decide +kernel
theorem dX13_knows_36 : decode cX13_knows 36 = .ok (.iconst (-1), 1) := by decide +kernel
theorem dX13_knows_37 : decode cX13_knows 37 = .ok (.ireturn, 1) := by decide +kernel
theorem dX13_depth_0 : decode cX13_depth 0 = .ok (.aload_n 0, 1) := by decide +kernel
theorem dX13_depth_1 : decode cX13_depth 1 = .ok (.iconst 0, 1) := by decide +kernel
theorem dX13_depth_2 : decode cX13_depth 2 = .ok (.putfield 1, 3) := by decide +kernel
theorem dX13_depth_5 : decode cX13_depth 5 = .ok (.aload_n 0, 1) := by decide +kernel
theorem dX13_depth_6 : decode cX13_depth 6 = .ok (.iload_n 1, 1) := by decide +kernel
theorem dX13_depth_7 : decode cX13_depth 7 = .ok (.invokevirtual 421, 3) := by decide +kernel
theorem dX13_depth_10 : decode cX13_depth 10 = .ok (.ifCond .eq 13, 3) := by decide +kernel
theorem dX13_depth_13 : decode cX13_depth 13 = .ok (.iload_n 2, 1) := by decide +kernel
theorem dX13_depth_14 : decode cX13_depth 14 = .ok (.iconst 1, 1) := by decide +kernel
theorem dX13_depth_15 : decode cX13_depth 15 = .ok (.bipush 9, 2) := by decide +kernel
theorem dX13_depth_17 : decode cX13_depth 17 = .ok (.invokestatic 231, 3) := by decide +kernel
theorem dX13_depth_20 : decode cX13_depth 20 = .ok (.ifCond .ne 5, 3) := by decide +kernel
theorem dX13_depth_23 : decode cX13_depth 23 = .ok (.iconst (-1), 1) := by decide +kernel
theorem dX13_depth_24 : decode cX13_depth 24 = .ok (.ireturn, 1) := by decide +kernel
theorem dX13_depth_25 : decode cX13_depth 25 = .ok (.iload_n 1, 1) := by decide +kernel
theorem dX13_depth_26 : decode cX13_depth 26 = .ok (.istore_n 3, 1) := by decide +kernel
theorem dX13_depth_27 : decode cX13_depth 27 = .ok (.iconst 0, 1) := by decide +kernel
theorem dX13_depth_28 : decode cX13_depth 28 = .ok (.istore 4, 2) := by decide +kernel
theorem dX13_depth_30 : decode cX13_depth 30 = .ok (.iload 4, 2) := by decide +kernel
theorem dX13_depth_32 : decode cX13_depth 32 = .ok (.iload_n 2, 1) := by decide +kernel
theorem dX13_depth_33 : decode cX13_depth 33 = .ok (.if_icmp .ge 15, 3) := by decide +kernel
theorem dX13_depth_36 : decode cX13_depth 36 = .ok (.aload_n 0, 1) := by decide +kernel
theorem dX13_depth_37 : decode cX13_depth 37 = .ok (.iload_n 3, 1) := by decide +kernel
theorem dX13_depth_38 : decode cX13_depth 38 = .ok (.invokevirtual 442, 3) := by decide +kernel
theorem dX13_depth_41 : decode cX13_depth 41 = .ok (.istore_n 3, 1) := by decide +kernel
theorem dX13_depth_42 : decode cX13_depth 42 = .ok (.iinc 4 1, 3) := by decide +kernel
theorem dX13_depth_45 : decode cX13_depth 45 = .ok (.goto (-15), 3) := by decide +kernel
theorem dX13_depth_48 : decode cX13_depth 48 = .ok (.iload_n 3, 1) := by decide +kernel
theorem dX13_depth_49 : decode cX13_depth 49 = .ok (.ireturn, 1) := by decide +kernel
theorem dX13_common_0 : decode cX13_common 0 = .ok (.aload_n 0, 1) := by decide +kernel
theorem dX13_common_1 : decode cX13_common 1 = .ok (.iconst 0, 1) := by decide +kernel
theorem dX13_common_2 : decode cX13_common 2 = .ok (.putfield 1, 3) := by decide +kernel
theorem dX13_common_5 : decode cX13_common 5 = .ok (.aload_n 0, 1) := by decide +kernel
theorem dX13_common_6 : decode cX13_common 6 = .ok (.iload_n 1, 1) := by decide +kernel
theorem dX13_common_7 : decode cX13_common 7 = .ok (.invokevirtual 421, 3) := by decide +kernel
theorem dX13_common_10 : decode cX13_common 10 = .ok (.ifCond .ne 5, 3) := by decide +kernel
theorem dX13_common_13 : decode cX13_common 13 = .ok (.iconst (-1), 1) := by decide +kernel
theorem dX13_common_14 : decode cX13_common 14 = .ok (.ireturn, 1) := by decide +kernel
theorem dX13_common_15 : decode cX13_common 15 = .ok (.iload_n 1, 1) := by decide +kernel
theorem dX13_common_16 : decode cX13_common 16 = .ok (.istore_n 2, 1) := by decide +kernel
theorem dX13_common_17 : decode cX13_common 17 = .ok (.iconst 0, 1) := by decide +kernel
theorem dX13_common_18 : decode cX13_common 18 = .ok (.istore_n 3, 1) := by decide +kernel
theorem dX13_common_19 : decode cX13_common 19 = .ok (.iload_n 3, 1) := by decide +kernel
theorem dX13_common_20 : decode cX13_common 20 = .ok (.bipush 8, 2) := by decide +kernel
theorem dX13_common_22 : decode cX13_common 22 = .ok (.if_icmp .gt 15, 3) := by decide +kernel
theorem dX13_common_25 : decode cX13_common 25 = .ok (.aload_n 0, 1) := by decide +kernel
theorem dX13_common_26 : decode cX13_common 26 = .ok (.iload_n 2, 1) := by decide +kernel
theorem dX13_common_27 : decode cX13_common 27 = .ok (.invokevirtual 442, 3) := by decide +kernel
theorem dX13_common_30 : decode cX13_common 30 = .ok (.istore_n 2, 1) := by decide +kernel
theorem dX13_common_31 : decode cX13_common 31 = .ok (.iinc 3 1, 3) := by decide +kernel
theorem dX13_common_34 : decode cX13_common 34 = .ok (.goto (-15), 3) := by decide +kernel
theorem dX13_common_37 : decode cX13_common 37 = .ok (.iload_n 2, 1) := by decide +kernel
theorem dX13_common_38 : decode cX13_common 38 = .ok (.ireturn, 1) := by decide +kernel
theorem dX13_getsBy_0 : decode cX13_getsBy 0 = .ok (.iload_n 1, 1) := by decide +kernel
theorem dX13_getsBy_1 : decode cX13_getsBy 1 = .ok (.ifCond .eq 18, 3) := by decide +kernel
theorem dX13_getsBy_4 : decode cX13_getsBy 4 = .ok (.iload_n 0, 1) := by decide +kernel
theorem dX13_getsBy_5 : decode cX13_getsBy 5 = .ok (.iload 4, 2) := by decide +kernel
theorem dX13_getsBy_7 : decode cX13_getsBy 7 = .ok (.ifCond .eq 7, 3) := by decide +kernel
theorem dX13_getsBy_10 : decode cX13_getsBy 10 = .ok (.iload_n 2, 1) := by decide +kernel
theorem dX13_getsBy_11 : decode cX13_getsBy 11 = .ok (.goto 4, 3) := by decide +kernel
theorem dX13_getsBy_14 : decode cX13_getsBy 14 = .ok (.iload_n 3, 1) := by decide +kernel
theorem dX13_getsBy_15 : decode cX13_getsBy 15 = .ok (.isub, 1) := by decide +kernel
theorem dX13_getsBy_16 : decode cX13_getsBy 16 = .ok (.goto 4, 3) := by decide +kernel
theorem dX13_getsBy_19 : decode cX13_getsBy 19 = .ok (.iconst 0, 1) := by decide +kernel
theorem dX13_getsBy_20 : decode cX13_getsBy 20 = .ok (.ireturn, 1) := by decide +kernel
theorem dX13_isRest_0 : decode cX13_isRest 0 = .ok (.iload_n 0, 1) := by decide +kernel
theorem dX13_isRest_1 : decode cX13_isRest 1 = .ok (.iload_n 3, 1) := by decide +kernel
theorem dX13_isRest_2 : decode cX13_isRest 2 = .ok (.iload 4, 2) := by decide +kernel
theorem dX13_isRest_4 : decode cX13_isRest 4 = .ok (.if_icmp .lt 7, 3) := by decide +kernel
theorem dX13_isRest_7 : decode cX13_isRest 7 = .ok (.iconst 1, 1) := by decide +kernel
theorem dX13_isRest_8 : decode cX13_isRest 8 = .ok (.goto 4, 3) := by decide +kernel
theorem dX13_isRest_11 : decode cX13_isRest 11 = .ok (.iconst 0, 1) := by decide +kernel
theorem dX13_isRest_12 : decode cX13_isRest 12 = .ok (.iload_n 3, 1) := by decide +kernel
theorem dX13_isRest_13 : decode cX13_isRest 13 = .ok (.iload 4, 2) := by decide +kernel
theorem dX13_isRest_15 : decode cX13_isRest 15 = .ok (.iload_n 2, 1) := by decide +kernel
theorem dX13_isRest_16 : decode cX13_isRest 16 = .ok (.invokestatic 445, 3) := by decide +kernel
theorem dX13_isRest_19 : decode cX13_isRest 19 = .ok (.istore 5, 2) := by decide +kernel
theorem dX13_isRest_21 : decode cX13_isRest 21 = .ok (.iload_n 1, 1) := by decide +kernel
theorem dX13_isRest_22 : decode cX13_isRest 22 = .ok (.iload 4, 2) := by decide +kernel
theorem dX13_isRest_24 : decode cX13_isRest 24 = .ok (.iload_n 3, 1) := by decide +kernel
theorem dX13_isRest_25 : decode cX13_isRest 25 = .ok (.if_icmp .le 7, 3) := by decide +kernel
theorem dX13_isRest_28 : decode cX13_isRest 28 = .ok (.iconst 1, 1) := by decide +kernel
theorem dX13_isRest_29 : decode cX13_isRest 29 = .ok (.goto 4, 3) := by decide +kernel
theorem dX13_isRest_32 : decode cX13_isRest 32 = .ok (.iconst 0, 1) := by decide +kernel
theorem dX13_isRest_33 : decode cX13_isRest 33 = .ok (.iload 4, 2) := by decide +kernel
theorem dX13_isRest_35 : decode cX13_isRest 35 = .ok (.iload_n 3, 1) := by decide +kernel
theorem dX13_isRest_36 : decode cX13_isRest 36 = .ok (.iload_n 2, 1) := by decide +kernel
theorem dX13_isRest_37 : decode cX13_isRest 37 = .ok (.invokestatic 445, 3) := by decide +kernel
theorem dX13_isRest_40 : decode cX13_isRest 40 = .ok (.istore 6, 2) := by decide +kernel
theorem dX13_isRest_42 : decode cX13_isRest 42 = .ok (.iconst 1, 1) := by decide +kernel
theorem dX13_isRest_43 : decode cX13_isRest 43 = .ok (.istore 7, 2) := by decide +kernel
theorem dX13_isRest_45 : decode cX13_isRest 45 = .ok (.iconst 0, 1) := by decide +kernel
theorem dX13_isRest_46 : decode cX13_isRest 46 = .ok (.istore 8, 2) := by decide +kernel
theorem dX13_isRest_48 : decode cX13_isRest 48 = .ok (.iload 8, 2) := by decide +kernel
theorem dX13_isRest_50 : decode cX13_isRest 50 = .ok (.bipush 10, 2) := by decide +kernel
theorem dX13_isRest_52 : decode cX13_isRest 52 = .ok (.if_icmp .ge 71, 3) := by decide +kernel
theorem dX13_isRest_55 : decode cX13_isRest 55 = .ok (.iload 7, 2) := by decide +kernel
theorem dX13_isRest_57 : decode cX13_isRest 57 = .ok (.ifCond .eq 57, 3) := by decide +kernel
theorem dX13_isRest_60 : decode cX13_isRest 60 = .ok (.iload_n 0, 1) := by decide +kernel
theorem dX13_isRest_61 : decode cX13_isRest 61 = .ok (.iload 8, 2) := by decide +kernel
theorem dX13_isRest_63 : decode cX13_isRest 63 = .ok (.iload 4, 2) := by decide +kernel
theorem dX13_isRest_65 : decode cX13_isRest 65 = .ok (.if_icmp .lt 7, 3) := by decide +kernel
theorem dX13_isRest_68 : decode cX13_isRest 68 = .ok (.iconst 1, 1) := by decide +kernel
theorem dX13_isRest_69 : decode cX13_isRest 69 = .ok (.goto 4, 3) := by decide +kernel
theorem dX13_isRest_72 : decode cX13_isRest 72 = .ok (.iconst 0, 1) := by decide +kernel
theorem dX13_isRest_73 : decode cX13_isRest 73 = .ok (.iload 8, 2) := by decide +kernel
theorem dX13_isRest_75 : decode cX13_isRest 75 = .ok (.iload 4, 2) := by decide +kernel
theorem dX13_isRest_77 : decode cX13_isRest 77 = .ok (.iload_n 2, 1) := by decide +kernel
theorem dX13_isRest_78 : decode cX13_isRest 78 = .ok (.invokestatic 445, 3) := by decide +kernel
theorem dX13_isRest_81 : decode cX13_isRest 81 = .ok (.iload 5, 2) := by decide +kernel
theorem dX13_isRest_83 : decode cX13_isRest 83 = .ok (.if_icmp .gt 31, 3) := by decide +kernel
theorem dX13_isRest_86 : decode cX13_isRest 86 = .ok (.iload_n 1, 1) := by decide +kernel
theorem dX13_isRest_87 : decode cX13_isRest 87 = .ok (.iload 8, 2) := by decide +kernel
theorem dX13_isRest_89 : decode cX13_isRest 89 = .ok (.iload_n 3, 1) := by decide +kernel
theorem dX13_isRest_90 : decode cX13_isRest 90 = .ok (.if_icmp .le 7, 3) := by decide +kernel
theorem dX13_isRest_93 : decode cX13_isRest 93 = .ok (.iconst 1, 1) := by decide +kernel
theorem dX13_isRest_94 : decode cX13_isRest 94 = .ok (.goto 4, 3) := by decide +kernel
theorem dX13_isRest_97 : decode cX13_isRest 97 = .ok (.iconst 0, 1) := by decide +kernel
theorem dX13_isRest_98 : decode cX13_isRest 98 = .ok (.iload 8, 2) := by decide +kernel
theorem dX13_isRest_100 : decode cX13_isRest 100 = .ok (.iload_n 3, 1) := by decide +kernel
theorem dX13_isRest_101 : decode cX13_isRest 101 = .ok (.iload_n 2, 1) := by decide +kernel
theorem dX13_isRest_102 : decode cX13_isRest 102 = .ok (.invokestatic 445, 3) := by decide +kernel
theorem dX13_isRest_105 : decode cX13_isRest 105 = .ok (.iload 6, 2) := by decide +kernel
theorem dX13_isRest_107 : decode cX13_isRest 107 = .ok (.if_icmp .gt 7, 3) := by decide +kernel
theorem dX13_isRest_110 : decode cX13_isRest 110 = .ok (.iconst 1, 1) := by decide +kernel
theorem dX13_isRest_111 : decode cX13_isRest 111 = .ok (.goto 4, 3) := by decide +kernel
theorem dX13_isRest_114 : decode cX13_isRest 114 = .ok (.iconst 0, 1) := by decide +kernel
theorem dX13_isRest_115 : decode cX13_isRest 115 = .ok (.istore 7, 2) := by decide +kernel
theorem dX13_isRest_117 : decode cX13_isRest 117 = .ok (.iinc 8 1, 3) := by decide +kernel
theorem dX13_isRest_120 : decode cX13_isRest 120 = .ok (.goto (-72), 3) := by decide +kernel
theorem dX13_isRest_123 : decode cX13_isRest 123 = .ok (.iload 7, 2) := by decide +kernel
theorem dX13_isRest_125 : decode cX13_isRest 125 = .ok (.ireturn, 1) := by decide +kernel
theorem dX13_rests_0 : decode cX13_rests 0 = .ok (.iload_n 1, 1) := by decide +kernel
theorem dX13_rests_1 : decode cX13_rests 1 = .ok (.iconst 0, 1) := by decide +kernel
theorem dX13_rests_2 : decode cX13_rests 2 = .ok (.bipush 9, 2) := by decide +kernel
theorem dX13_rests_4 : decode cX13_rests 4 = .ok (.invokestatic 231, 3) := by decide +kernel
theorem dX13_rests_7 : decode cX13_rests 7 = .ok (.ifCond .eq 23, 3) := by decide +kernel
theorem dX13_rests_10 : decode cX13_rests 10 = .ok (.iload_n 2, 1) := by decide +kernel
theorem dX13_rests_11 : decode cX13_rests 11 = .ok (.iconst 0, 1) := by decide +kernel
theorem dX13_rests_12 : decode cX13_rests 12 = .ok (.bipush 9, 2) := by decide +kernel
theorem dX13_rests_14 : decode cX13_rests 14 = .ok (.invokestatic 231, 3) := by decide +kernel
theorem dX13_rests_17 : decode cX13_rests 17 = .ok (.ifCond .eq 13, 3) := by decide +kernel
theorem dX13_rests_20 : decode cX13_rests 20 = .ok (.iload 4, 2) := by decide +kernel
theorem dX13_rests_22 : decode cX13_rests 22 = .ok (.iconst (-1), 1) := by decide +kernel
theorem dX13_rests_23 : decode cX13_rests 23 = .ok (.if_icmp .lt 7, 3) := by decide +kernel
theorem dX13_rests_26 : decode cX13_rests 26 = .ok (.iconst 1, 1) := by decide +kernel
theorem dX13_rests_27 : decode cX13_rests 27 = .ok (.goto 4, 3) := by decide +kernel
theorem dX13_rests_30 : decode cX13_rests 30 = .ok (.iconst 0, 1) := by decide +kernel
theorem dX13_rests_31 : decode cX13_rests 31 = .ok (.istore 5, 2) := by decide +kernel
theorem dX13_rests_33 : decode cX13_rests 33 = .ok (.iconst 0, 1) := by decide +kernel
theorem dX13_rests_34 : decode cX13_rests 34 = .ok (.istore 6, 2) := by decide +kernel
theorem dX13_rests_36 : decode cX13_rests 36 = .ok (.iconst (-1), 1) := by decide +kernel
theorem dX13_rests_37 : decode cX13_rests 37 = .ok (.istore 7, 2) := by decide +kernel
theorem dX13_rests_39 : decode cX13_rests 39 = .ok (.iconst 0, 1) := by decide +kernel
theorem dX13_rests_40 : decode cX13_rests 40 = .ok (.istore 8, 2) := by decide +kernel
theorem dX13_rests_42 : decode cX13_rests 42 = .ok (.iload 8, 2) := by decide +kernel
theorem dX13_rests_44 : decode cX13_rests 44 = .ok (.bipush 100, 2) := by decide +kernel
theorem dX13_rests_46 : decode cX13_rests 46 = .ok (.if_icmp .ge 68, 3) := by decide +kernel
theorem dX13_rests_49 : decode cX13_rests 49 = .ok (.iload 5, 2) := by decide +kernel
theorem dX13_rests_51 : decode cX13_rests 51 = .ok (.ifCond .eq 63, 3) := by decide +kernel
theorem dX13_rests_54 : decode cX13_rests 54 = .ok (.iload_n 1, 1) := by decide +kernel
theorem dX13_rests_55 : decode cX13_rests 55 = .ok (.iload_n 2, 1) := by decide +kernel
theorem dX13_rests_56 : decode cX13_rests 56 = .ok (.iload_n 3, 1) := by decide +kernel
theorem dX13_rests_57 : decode cX13_rests 57 = .ok (.iload 8, 2) := by decide +kernel
theorem dX13_rests_59 : decode cX13_rests 59 = .ok (.bipush 10, 2) := by decide +kernel
theorem dX13_rests_61 : decode cX13_rests 61 = .ok (.idiv, 1) := by decide +kernel
theorem dX13_rests_62 : decode cX13_rests 62 = .ok (.iload 8, 2) := by decide +kernel
theorem dX13_rests_64 : decode cX13_rests 64 = .ok (.bipush 10, 2) := by decide +kernel
theorem dX13_rests_66 : decode cX13_rests 66 = .ok (.irem, 1) := by decide +kernel
theorem dX13_rests_67 : decode cX13_rests 67 = .ok (.invokestatic 449, 3) := by decide +kernel
theorem dX13_rests_70 : decode cX13_rests 70 = .ok (.istore 9, 2) := by decide +kernel
theorem dX13_rests_72 : decode cX13_rests 72 = .ok (.iload 9, 2) := by decide +kernel
theorem dX13_rests_74 : decode cX13_rests 74 = .ok (.ifCond .eq 15, 3) := by decide +kernel
theorem dX13_rests_77 : decode cX13_rests 77 = .ok (.iload 6, 2) := by decide +kernel
theorem dX13_rests_79 : decode cX13_rests 79 = .ok (.iload 4, 2) := by decide +kernel
theorem dX13_rests_81 : decode cX13_rests 81 = .ok (.if_icmp .ne 8, 3) := by decide +kernel
theorem dX13_rests_84 : decode cX13_rests 84 = .ok (.iload 8, 2) := by decide +kernel
theorem dX13_rests_86 : decode cX13_rests 86 = .ok (.goto 5, 3) := by decide +kernel
theorem dX13_rests_89 : decode cX13_rests 89 = .ok (.iload 7, 2) := by decide +kernel
theorem dX13_rests_91 : decode cX13_rests 91 = .ok (.istore 7, 2) := by decide +kernel
theorem dX13_rests_93 : decode cX13_rests 93 = .ok (.iload 6, 2) := by decide +kernel
theorem dX13_rests_95 : decode cX13_rests 95 = .ok (.iload 9, 2) := by decide +kernel
theorem dX13_rests_97 : decode cX13_rests 97 = .ok (.ifCond .eq 7, 3) := by decide +kernel
theorem dX13_rests_100 : decode cX13_rests 100 = .ok (.iconst 1, 1) := by decide +kernel
theorem dX13_rests_101 : decode cX13_rests 101 = .ok (.goto 4, 3) := by decide +kernel
theorem dX13_rests_104 : decode cX13_rests 104 = .ok (.iconst 0, 1) := by decide +kernel
theorem dX13_rests_105 : decode cX13_rests 105 = .ok (.iadd, 1) := by decide +kernel
theorem dX13_rests_106 : decode cX13_rests 106 = .ok (.istore 6, 2) := by decide +kernel
theorem dX13_rests_108 : decode cX13_rests 108 = .ok (.iinc 8 1, 3) := by decide +kernel
theorem dX13_rests_111 : decode cX13_rests 111 = .ok (.goto (-69), 3) := by decide +kernel
theorem dX13_rests_114 : decode cX13_rests 114 = .ok (.aload_n 0, 1) := by decide +kernel
theorem dX13_rests_115 : decode cX13_rests 115 = .ok (.iload 5, 2) := by decide +kernel
theorem dX13_rests_117 : decode cX13_rests 117 = .ok (.ifCond .eq 17, 3) := by decide +kernel
theorem dX13_rests_120 : decode cX13_rests 120 = .ok (.iload 4, 2) := by decide +kernel
theorem dX13_rests_122 : decode cX13_rests 122 = .ok (.ifCond .lt 8, 3) := by decide +kernel
theorem dX13_rests_125 : decode cX13_rests 125 = .ok (.iload 7, 2) := by decide +kernel
theorem dX13_rests_127 : decode cX13_rests 127 = .ok (.ifCond .lt 7, 3) := by decide +kernel
theorem dX13_rests_130 : decode cX13_rests 130 = .ok (.iconst 0, 1) := by decide +kernel
theorem dX13_rests_131 : decode cX13_rests 131 = .ok (.goto 4, 3) := by decide +kernel
theorem dX13_rests_134 : decode cX13_rests 134 = .ok (.iconst 1, 1) := by decide +kernel
theorem dX13_rests_135 : decode cX13_rests 135 = .ok (.putfield 1, 3) := by decide +kernel
theorem dX13_rests_138 : decode cX13_rests 138 = .ok (.aload_n 0, 1) := by decide +kernel
theorem dX13_rests_139 : decode cX13_rests 139 = .ok (.getfield 1, 3) := by decide +kernel
theorem dX13_rests_142 : decode cX13_rests 142 = .ok (.ifCond .le 7, 3) := by decide +kernel
theorem dX13_rests_145 : decode cX13_rests 145 = .ok (.iconst 0, 1) := by decide +kernel
theorem dX13_rests_146 : decode cX13_rests 146 = .ok (.goto 15, 3) := by decide +kernel
theorem dX13_rests_149 : decode cX13_rests 149 = .ok (.iload 4, 2) := by decide +kernel
theorem dX13_rests_151 : decode cX13_rests 151 = .ok (.ifCond .ge 8, 3) := by decide +kernel
theorem dX13_rests_154 : decode cX13_rests 154 = .ok (.iload 6, 2) := by decide +kernel
theorem dX13_rests_156 : decode cX13_rests 156 = .ok (.goto 5, 3) := by decide +kernel
theorem dX13_rests_159 : decode cX13_rests 159 = .ok (.iload 7, 2) := by decide +kernel
theorem dX13_rests_161 : decode cX13_rests 161 = .ok (.ireturn, 1) := by decide +kernel
theorem dX13_watches_0 : decode cX13_watches 0 = .ok (.iload_n 1, 1) := by decide +kernel
theorem dX13_watches_1 : decode cX13_watches 1 = .ok (.aload_n 0, 1) := by decide +kernel
theorem dX13_watches_2 : decode cX13_watches 2 = .ok (.invokevirtual 320, 3) := by decide +kernel
theorem dX13_watches_5 : decode cX13_watches 5 = .ok (.if_icmp .ne 71, 3) := by decide +kernel
theorem dX13_watches_8 : decode cX13_watches 8 = .ok (.aload_n 0, 1) := by decide +kernel
theorem dX13_watches_9 : decode cX13_watches 9 = .ok (.getfield 453, 3) := by decide +kernel
theorem dX13_watches_12 : decode cX13_watches 12 = .ok (.ifCond .lt 39, 3) := by decide +kernel
theorem dX13_watches_15 : decode cX13_watches 15 = .ok (.iload_n 2, 1) := by decide +kernel
theorem dX13_watches_16 : decode cX13_watches 16 = .ok (.invokestatic 339, 3) := by decide +kernel
theorem dX13_watches_19 : decode cX13_watches 19 = .ok (.aload_n 0, 1) := by decide +kernel
theorem dX13_watches_20 : decode cX13_watches 20 = .ok (.getfield 453, 3) := by decide +kernel
theorem dX13_watches_23 : decode cX13_watches 23 = .ok (.invokestatic 339, 3) := by decide +kernel
theorem dX13_watches_26 : decode cX13_watches 26 = .ok (.if_icmp .lt 25, 3) := by decide +kernel
theorem dX13_watches_29 : decode cX13_watches 29 = .ok (.iload_n 2, 1) := by decide +kernel
theorem dX13_watches_30 : decode cX13_watches 30 = .ok (.invokestatic 339, 3) := by decide +kernel
theorem dX13_watches_33 : decode cX13_watches 33 = .ok (.aload_n 0, 1) := by decide +kernel
theorem dX13_watches_34 : decode cX13_watches 34 = .ok (.getfield 453, 3) := by decide +kernel
theorem dX13_watches_37 : decode cX13_watches 37 = .ok (.invokestatic 339, 3) := by decide +kernel
theorem dX13_watches_40 : decode cX13_watches 40 = .ok (.if_icmp .ne 15, 3) := by decide +kernel
theorem dX13_watches_43 : decode cX13_watches 43 = .ok (.iload_n 2, 1) := by decide +kernel
theorem dX13_watches_44 : decode cX13_watches 44 = .ok (.aload_n 0, 1) := by decide +kernel
theorem dX13_watches_45 : decode cX13_watches 45 = .ok (.getfield 453, 3) := by decide +kernel
theorem dX13_watches_48 : decode cX13_watches 48 = .ok (.if_icmp .ge 7, 3) := by decide +kernel
theorem dX13_watches_51 : decode cX13_watches 51 = .ok (.iconst 1, 1) := by decide +kernel
theorem dX13_watches_52 : decode cX13_watches 52 = .ok (.goto 4, 3) := by decide +kernel
theorem dX13_watches_55 : decode cX13_watches 55 = .ok (.iconst 0, 1) := by decide +kernel
theorem dX13_watches_56 : decode cX13_watches 56 = .ok (.istore 4, 2) := by decide +kernel
theorem dX13_watches_58 : decode cX13_watches 58 = .ok (.aload_n 0, 1) := by decide +kernel
theorem dX13_watches_59 : decode cX13_watches 59 = .ok (.iload 4, 2) := by decide +kernel
theorem dX13_watches_61 : decode cX13_watches 61 = .ok (.ifCond .eq 7, 3) := by decide +kernel
theorem dX13_watches_64 : decode cX13_watches 64 = .ok (.iload_n 2, 1) := by decide +kernel
theorem dX13_watches_65 : decode cX13_watches 65 = .ok (.goto 7, 3) := by decide +kernel
theorem dX13_watches_68 : decode cX13_watches 68 = .ok (.aload_n 0, 1) := by decide +kernel
theorem dX13_watches_69 : decode cX13_watches 69 = .ok (.getfield 453, 3) := by decide +kernel
theorem dX13_watches_72 : decode cX13_watches 72 = .ok (.putfield 453, 3) := by decide +kernel
theorem dX13_watches_75 : decode cX13_watches 75 = .ok (.return_, 1) := by decide +kernel
theorem dX13_watches_76 : decode cX13_watches 76 = .ok (.aload_n 0, 1) := by decide +kernel
theorem dX13_watches_77 : decode cX13_watches 77 = .ok (.iload_n 1, 1) := by decide +kernel
theorem dX13_watches_78 : decode cX13_watches 78 = .ok (.iconst 3, 1) := by decide +kernel
theorem dX13_watches_79 : decode cX13_watches 79 = .ok (.invokevirtual 323, 3) := by decide +kernel
theorem dX13_watches_82 : decode cX13_watches 82 = .ok (.istore 4, 2) := by decide +kernel
theorem dX13_watches_84 : decode cX13_watches 84 = .ok (.iload_n 3, 1) := by decide +kernel
theorem dX13_watches_85 : decode cX13_watches 85 = .ok (.ifCond .gt 10, 3) := by decide +kernel
theorem dX13_watches_88 : decode cX13_watches 88 = .ok (.iload 4, 2) := by decide +kernel
theorem dX13_watches_90 : decode cX13_watches 90 = .ok (.iload_n 2, 1) := by decide +kernel
theorem dX13_watches_91 : decode cX13_watches 91 = .ok (.iand, 1) := by decide +kernel
theorem dX13_watches_92 : decode cX13_watches 92 = .ok (.ifCond .eq 25, 3) := by decide +kernel
theorem dX13_watches_95 : decode cX13_watches 95 = .ok (.aload_n 0, 1) := by decide +kernel
theorem dX13_watches_96 : decode cX13_watches 96 = .ok (.iload_n 1, 1) := by decide +kernel
theorem dX13_watches_97 : decode cX13_watches 97 = .ok (.iconst 1, 1) := by decide +kernel
theorem dX13_watches_98 : decode cX13_watches 98 = .ok (.iadd, 1) := by decide +kernel
theorem dX13_watches_99 : decode cX13_watches 99 = .ok (.iload_n 2, 1) := by decide +kernel
theorem dX13_watches_100 : decode cX13_watches 100 = .ok (.iload 4, 2) := by decide +kernel
theorem dX13_watches_102 : decode cX13_watches 102 = .ok (.iload_n 2, 1) := by decide +kernel
theorem dX13_watches_103 : decode cX13_watches 103 = .ok (.iand, 1) := by decide +kernel
theorem dX13_watches_104 : decode cX13_watches 104 = .ok (.ifCond .eq 7, 3) := by decide +kernel
theorem dX13_watches_107 : decode cX13_watches 107 = .ok (.iload_n 3, 1) := by decide +kernel
theorem dX13_watches_108 : decode cX13_watches 108 = .ok (.goto 6, 3) := by decide +kernel
theorem dX13_watches_111 : decode cX13_watches 111 = .ok (.iload_n 3, 1) := by decide +kernel
theorem dX13_watches_112 : decode cX13_watches 112 = .ok (.iconst 1, 1) := by decide +kernel
theorem dX13_watches_113 : decode cX13_watches 113 = .ok (.isub, 1) := by decide +kernel
theorem dX13_watches_114 : decode cX13_watches 114 = .ok (.invokevirtual 456, 3) := by decide +kernel
theorem dX13_watches_117 : decode cX13_watches 117 = .ok (.iconst 0, 1) := by decide +kernel
theorem dX13_watches_118 : decode cX13_watches 118 = .ok (.istore 5, 2) := by decide +kernel
theorem dX13_watches_120 : decode cX13_watches 120 = .ok (.iload 5, 2) := by decide +kernel
theorem dX13_watches_122 : decode cX13_watches 122 = .ok (.bipush 24, 2) := by decide +kernel
theorem dX13_watches_124 : decode cX13_watches 124 = .ok (.if_icmp .ge 34, 3) := by decide +kernel
theorem dX13_watches_127 : decode cX13_watches 127 = .ok (.iload 4, 2) := by decide +kernel
theorem dX13_watches_129 : decode cX13_watches 129 = .ok (.iload 5, 2) := by decide +kernel
theorem dX13_watches_131 : decode cX13_watches 131 = .ok (.ishr, 1) := by decide +kernel
theorem dX13_watches_132 : decode cX13_watches 132 = .ok (.iconst 1, 1) := by decide +kernel
theorem dX13_watches_133 : decode cX13_watches 133 = .ok (.iand, 1) := by decide +kernel
theorem dX13_watches_134 : decode cX13_watches 134 = .ok (.iconst 1, 1) := by decide +kernel
theorem dX13_watches_135 : decode cX13_watches 135 = .ok (.if_icmp .ne 17, 3) := by decide +kernel
theorem dX13_watches_138 : decode cX13_watches 138 = .ok (.aload_n 0, 1) := by decide +kernel
theorem dX13_watches_139 : decode cX13_watches 139 = .ok (.iload_n 1, 1) := by decide +kernel
theorem dX13_watches_140 : decode cX13_watches 140 = .ok (.iconst 1, 1) := by decide +kernel
theorem dX13_watches_141 : decode cX13_watches 141 = .ok (.iadd, 1) := by decide +kernel
theorem dX13_watches_142 : decode cX13_watches 142 = .ok (.iload_n 2, 1) := by decide +kernel
theorem dX13_watches_143 : decode cX13_watches 143 = .ok (.iconst 1, 1) := by decide +kernel
theorem dX13_watches_144 : decode cX13_watches 144 = .ok (.iload 5, 2) := by decide +kernel
theorem dX13_watches_146 : decode cX13_watches 146 = .ok (.ishl, 1) := by decide +kernel
theorem dX13_watches_147 : decode cX13_watches 147 = .ok (.ior, 1) := by decide +kernel
theorem dX13_watches_148 : decode cX13_watches 148 = .ok (.iload_n 3, 1) := by decide +kernel
theorem dX13_watches_149 : decode cX13_watches 149 = .ok (.invokevirtual 456, 3) := by decide +kernel
theorem dX13_watches_152 : decode cX13_watches 152 = .ok (.iinc 5 1, 3) := by decide +kernel
theorem dX13_watches_155 : decode cX13_watches 155 = .ok (.goto (-35), 3) := by decide +kernel
theorem dX13_watches_158 : decode cX13_watches 158 = .ok (.return_, 1) := by decide +kernel
theorem dX13_watch_0 : decode cX13_watch 0 = .ok (.aload_n 0, 1) := by decide +kernel
theorem dX13_watch_1 : decode cX13_watch 1 = .ok (.iconst 0, 1) := by decide +kernel
theorem dX13_watch_2 : decode cX13_watch 2 = .ok (.putfield 1, 3) := by decide +kernel
theorem dX13_watch_5 : decode cX13_watch 5 = .ok (.iload_n 1, 1) := by decide +kernel
theorem dX13_watch_6 : decode cX13_watch 6 = .ok (.iconst 0, 1) := by decide +kernel
theorem dX13_watch_7 : decode cX13_watch 7 = .ok (.iconst 5, 1) := by decide +kernel
theorem dX13_watch_8 : decode cX13_watch 8 = .ok (.invokestatic 231, 3) := by decide +kernel
theorem dX13_watch_11 : decode cX13_watch 11 = .ok (.ifCond .ne 5, 3) := by decide +kernel
theorem dX13_watch_14 : decode cX13_watch 14 = .ok (.iconst (-1), 1) := by decide +kernel
theorem dX13_watch_15 : decode cX13_watch 15 = .ok (.ireturn, 1) := by decide +kernel
theorem dX13_watch_16 : decode cX13_watch 16 = .ok (.aload_n 0, 1) := by decide +kernel
theorem dX13_watch_17 : decode cX13_watch 17 = .ok (.iconst (-1), 1) := by decide +kernel
theorem dX13_watch_18 : decode cX13_watch 18 = .ok (.putfield 453, 3) := by decide +kernel
theorem dX13_watch_21 : decode cX13_watch 21 = .ok (.aload_n 0, 1) := by decide +kernel
theorem dX13_watch_22 : decode cX13_watch 22 = .ok (.iconst 0, 1) := by decide +kernel
theorem dX13_watch_23 : decode cX13_watch 23 = .ok (.iconst 0, 1) := by decide +kernel
theorem dX13_watch_24 : decode cX13_watch 24 = .ok (.iload_n 1, 1) := by decide +kernel
theorem dX13_watch_25 : decode cX13_watch 25 = .ok (.invokevirtual 456, 3) := by decide +kernel
theorem dX13_watch_28 : decode cX13_watch 28 = .ok (.aload_n 0, 1) := by decide +kernel
theorem dX13_watch_29 : decode cX13_watch 29 = .ok (.getfield 453, 3) := by decide +kernel
theorem dX13_watch_32 : decode cX13_watch 32 = .ok (.ireturn, 1) := by decide +kernel
theorem dX13_slips_0 : decode cX13_slips 0 = .ok (.aload_n 0, 1) := by decide +kernel
theorem dX13_slips_1 : decode cX13_slips 1 = .ok (.iconst 0, 1) := by decide +kernel
theorem dX13_slips_2 : decode cX13_slips 2 = .ok (.putfield 1, 3) := by decide +kernel
theorem dX13_slips_5 : decode cX13_slips 5 = .ok (.iload_n 1, 1) := by decide +kernel
theorem dX13_slips_6 : decode cX13_slips 6 = .ok (.iconst 0, 1) := by decide +kernel
theorem dX13_slips_7 : decode cX13_slips 7 = .ok (.bipush 30, 2) := by decide +kernel
theorem dX13_slips_9 : decode cX13_slips 9 = .ok (.invokestatic 231, 3) := by decide +kernel
theorem dX13_slips_12 : decode cX13_slips 12 = .ok (.ifCond .eq 22, 3) := by decide +kernel
theorem dX13_slips_15 : decode cX13_slips 15 = .ok (.iload_n 2, 1) := by decide +kernel
theorem dX13_slips_16 : decode cX13_slips 16 = .ok (.iconst 1, 1) := by decide +kernel
theorem dX13_slips_17 : decode cX13_slips 17 = .ok (.bipush 8, 2) := by decide +kernel
theorem dX13_slips_19 : decode cX13_slips 19 = .ok (.invokestatic 231, 3) := by decide +kernel
theorem dX13_slips_22 : decode cX13_slips 22 = .ok (.ifCond .eq 12, 3) := by decide +kernel
theorem dX13_slips_25 : decode cX13_slips 25 = .ok (.iload_n 3, 1) := by decide +kernel
theorem dX13_slips_26 : decode cX13_slips 26 = .ok (.iconst 0, 1) := by decide +kernel
theorem dX13_slips_27 : decode cX13_slips 27 = .ok (.iload_n 2, 1) := by decide +kernel
theorem dX13_slips_28 : decode cX13_slips 28 = .ok (.invokestatic 231, 3) := by decide +kernel
theorem dX13_slips_31 : decode cX13_slips 31 = .ok (.ifCond .ne 5, 3) := by decide +kernel
theorem dX13_slips_34 : decode cX13_slips 34 = .ok (.iconst (-1), 1) := by decide +kernel
theorem dX13_slips_35 : decode cX13_slips 35 = .ok (.ireturn, 1) := by decide +kernel
theorem dX13_slips_36 : decode cX13_slips 36 = .ok (.iconst 0, 1) := by decide +kernel
theorem dX13_slips_37 : decode cX13_slips 37 = .ok (.istore 4, 2) := by decide +kernel
theorem dX13_slips_39 : decode cX13_slips 39 = .ok (.iload 4, 2) := by decide +kernel
theorem dX13_slips_41 : decode cX13_slips 41 = .ok (.bipush 10, 2) := by decide +kernel
theorem dX13_slips_43 : decode cX13_slips 43 = .ok (.if_icmp .ge 28, 3) := by decide +kernel
theorem dX13_slips_46 : decode cX13_slips 46 = .ok (.aload_n 0, 1) := by decide +kernel
theorem dX13_slips_47 : decode cX13_slips 47 = .ok (.getfield 153, 3) := by decide +kernel
theorem dX13_slips_50 : decode cX13_slips 50 = .ok (.iload 4, 2) := by decide +kernel
theorem dX13_slips_52 : decode cX13_slips 52 = .ok (.iload 4, 2) := by decide +kernel
theorem dX13_slips_54 : decode cX13_slips 54 = .ok (.ifCond .ne 9, 3) := by decide +kernel
theorem dX13_slips_57 : decode cX13_slips 57 = .ok (.ldc_w 459, 3) := by decide +kernel
theorem dX13_slips_60 : decode cX13_slips 60 = .ok (.goto 4, 3) := by decide +kernel
theorem dX13_slips_63 : decode cX13_slips 63 = .ok (.iconst 0, 1) := by decide +kernel
theorem dX13_slips_64 : decode cX13_slips 64 = .ok (.iastore, 1) := by decide +kernel
theorem dX13_slips_65 : decode cX13_slips 65 = .ok (.iinc 4 1, 3) := by decide +kernel
theorem dX13_slips_68 : decode cX13_slips 68 = .ok (.goto (-29), 3) := by decide +kernel
theorem dX13_slips_71 : decode cX13_slips 71 = .ok (.iconst 0, 1) := by decide +kernel
theorem dX13_slips_72 : decode cX13_slips 72 = .ok (.istore 4, 2) := by decide +kernel
theorem dX13_slips_74 : decode cX13_slips 74 = .ok (.iload 4, 2) := by decide +kernel
theorem dX13_slips_76 : decode cX13_slips 76 = .ok (.iload_n 1, 1) := by decide +kernel
theorem dX13_slips_77 : decode cX13_slips 77 = .ok (.if_icmp .ge 118, 3) := by decide +kernel
theorem dX13_slips_80 : decode cX13_slips 80 = .ok (.iconst 0, 1) := by decide +kernel
theorem dX13_slips_81 : decode cX13_slips 81 = .ok (.istore 5, 2) := by decide +kernel
theorem dX13_slips_83 : decode cX13_slips 83 = .ok (.iload 5, 2) := by decide +kernel
theorem dX13_slips_85 : decode cX13_slips 85 = .ok (.iload_n 2, 1) := by decide +kernel
theorem dX13_slips_86 : decode cX13_slips 86 = .ok (.if_icmp .gt 74, 3) := by decide +kernel
theorem dX13_slips_89 : decode cX13_slips 89 = .ok (.iload 5, 2) := by decide +kernel
theorem dX13_slips_91 : decode cX13_slips 91 = .ok (.ifCond .ne 7, 3) := by decide +kernel
theorem dX13_slips_94 : decode cX13_slips 94 = .ok (.iconst 0, 1) := by decide +kernel
theorem dX13_slips_95 : decode cX13_slips 95 = .ok (.goto 21, 3) := by decide +kernel
theorem dX13_slips_98 : decode cX13_slips 98 = .ok (.aload_n 0, 1) := by decide +kernel
theorem dX13_slips_99 : decode cX13_slips 99 = .ok (.getfield 153, 3) := by decide +kernel
theorem dX13_slips_102 : decode cX13_slips 102 = .ok (.iload 5, 2) := by decide +kernel
theorem dX13_slips_104 : decode cX13_slips 104 = .ok (.iconst 1, 1) := by decide +kernel
theorem dX13_slips_105 : decode cX13_slips 105 = .ok (.isub, 1) := by decide +kernel
theorem dX13_slips_106 : decode cX13_slips 106 = .ok (.iaload, 1) := by decide +kernel
theorem dX13_slips_107 : decode cX13_slips 107 = .ok (.iload_n 2, 1) := by decide +kernel
theorem dX13_slips_108 : decode cX13_slips 108 = .ok (.iload 5, 2) := by decide +kernel
theorem dX13_slips_110 : decode cX13_slips 110 = .ok (.isub, 1) := by decide +kernel
theorem dX13_slips_111 : decode cX13_slips 111 = .ok (.iconst 1, 1) := by decide +kernel
theorem dX13_slips_112 : decode cX13_slips 112 = .ok (.iadd, 1) := by decide +kernel
theorem dX13_slips_113 : decode cX13_slips 113 = .ok (.imul, 1) := by decide +kernel
theorem dX13_slips_114 : decode cX13_slips 114 = .ok (.iload_n 2, 1) := by decide +kernel
theorem dX13_slips_115 : decode cX13_slips 115 = .ok (.idiv, 1) := by decide +kernel
theorem dX13_slips_116 : decode cX13_slips 116 = .ok (.istore 6, 2) := by decide +kernel
theorem dX13_slips_118 : decode cX13_slips 118 = .ok (.aload_n 0, 1) := by decide +kernel
theorem dX13_slips_119 : decode cX13_slips 119 = .ok (.getfield 156, 3) := by decide +kernel
theorem dX13_slips_122 : decode cX13_slips 122 = .ok (.iload 5, 2) := by decide +kernel
theorem dX13_slips_124 : decode cX13_slips 124 = .ok (.iload 6, 2) := by decide +kernel
theorem dX13_slips_126 : decode cX13_slips 126 = .ok (.iload 5, 2) := by decide +kernel
theorem dX13_slips_128 : decode cX13_slips 128 = .ok (.iload_n 2, 1) := by decide +kernel
theorem dX13_slips_129 : decode cX13_slips 129 = .ok (.if_icmp .ne 7, 3) := by decide +kernel
theorem dX13_slips_132 : decode cX13_slips 132 = .ok (.iconst 0, 1) := by decide +kernel
theorem dX13_slips_133 : decode cX13_slips 133 = .ok (.goto 19, 3) := by decide +kernel
theorem dX13_slips_136 : decode cX13_slips 136 = .ok (.aload_n 0, 1) := by decide +kernel
theorem dX13_slips_137 : decode cX13_slips 137 = .ok (.getfield 153, 3) := by decide +kernel
theorem dX13_slips_140 : decode cX13_slips 140 = .ok (.iload 5, 2) := by decide +kernel
theorem dX13_slips_142 : decode cX13_slips 142 = .ok (.iconst 1, 1) := by decide +kernel
theorem dX13_slips_143 : decode cX13_slips 143 = .ok (.iadd, 1) := by decide +kernel
theorem dX13_slips_144 : decode cX13_slips 144 = .ok (.iaload, 1) := by decide +kernel
theorem dX13_slips_145 : decode cX13_slips 145 = .ok (.iload 5, 2) := by decide +kernel
theorem dX13_slips_147 : decode cX13_slips 147 = .ok (.iconst 1, 1) := by decide +kernel
theorem dX13_slips_148 : decode cX13_slips 148 = .ok (.iadd, 1) := by decide +kernel
theorem dX13_slips_149 : decode cX13_slips 149 = .ok (.imul, 1) := by decide +kernel
theorem dX13_slips_150 : decode cX13_slips 150 = .ok (.iload_n 2, 1) := by decide +kernel
theorem dX13_slips_151 : decode cX13_slips 151 = .ok (.idiv, 1) := by decide +kernel
theorem dX13_slips_152 : decode cX13_slips 152 = .ok (.iadd, 1) := by decide +kernel
theorem dX13_slips_153 : decode cX13_slips 153 = .ok (.iastore, 1) := by decide +kernel
theorem dX13_slips_154 : decode cX13_slips 154 = .ok (.iinc 5 1, 3) := by decide +kernel
theorem dX13_slips_157 : decode cX13_slips 157 = .ok (.goto (-74), 3) := by decide +kernel
theorem dX13_slips_160 : decode cX13_slips 160 = .ok (.iconst 0, 1) := by decide +kernel
theorem dX13_slips_161 : decode cX13_slips 161 = .ok (.istore 5, 2) := by decide +kernel
theorem dX13_slips_163 : decode cX13_slips 163 = .ok (.iload 5, 2) := by decide +kernel
theorem dX13_slips_165 : decode cX13_slips 165 = .ok (.iload_n 2, 1) := by decide +kernel
theorem dX13_slips_166 : decode cX13_slips 166 = .ok (.if_icmp .gt 23, 3) := by decide +kernel
theorem dX13_slips_169 : decode cX13_slips 169 = .ok (.aload_n 0, 1) := by decide +kernel
theorem dX13_slips_170 : decode cX13_slips 170 = .ok (.getfield 153, 3) := by decide +kernel
theorem dX13_slips_173 : decode cX13_slips 173 = .ok (.iload 5, 2) := by decide +kernel
theorem dX13_slips_175 : decode cX13_slips 175 = .ok (.aload_n 0, 1) := by decide +kernel
theorem dX13_slips_176 : decode cX13_slips 176 = .ok (.getfield 156, 3) := by decide +kernel
theorem dX13_slips_179 : decode cX13_slips 179 = .ok (.iload 5, 2) := by decide +kernel
theorem dX13_slips_181 : decode cX13_slips 181 = .ok (.iaload, 1) := by decide +kernel
theorem dX13_slips_182 : decode cX13_slips 182 = .ok (.iastore, 1) := by decide +kernel
theorem dX13_slips_183 : decode cX13_slips 183 = .ok (.iinc 5 1, 3) := by decide +kernel
theorem dX13_slips_186 : decode cX13_slips 186 = .ok (.goto (-23), 3) := by decide +kernel
theorem dX13_slips_189 : decode cX13_slips 189 = .ok (.iinc 4 1, 3) := by decide +kernel
theorem dX13_slips_192 : decode cX13_slips 192 = .ok (.goto (-118), 3) := by decide +kernel
theorem dX13_slips_195 : decode cX13_slips 195 = .ok (.aload_n 0, 1) := by decide +kernel
theorem dX13_slips_196 : decode cX13_slips 196 = .ok (.getfield 153, 3) := by decide +kernel
theorem dX13_slips_199 : decode cX13_slips 199 = .ok (.iload_n 3, 1) := by decide +kernel
theorem dX13_slips_200 : decode cX13_slips 200 = .ok (.iaload, 1) := by decide +kernel
theorem dX13_slips_201 : decode cX13_slips 201 = .ok (.ireturn, 1) := by decide +kernel
theorem dX13_draw_0 : decode cX13_draw 0 = .ok (.aload_n 0, 1) := by decide +kernel
theorem dX13_draw_1 : decode cX13_draw 1 = .ok (.aload_n 0, 1) := by decide +kernel
theorem dX13_draw_2 : decode cX13_draw 2 = .ok (.getfield 460, 3) := by decide +kernel
theorem dX13_draw_5 : decode cX13_draw 5 = .ok (.ldc2_w 464, 3) := by decide +kernel
theorem dX13_draw_8 : decode cX13_draw 8 = .ok (.lmul, 1) := by decide +kernel
theorem dX13_draw_9 : decode cX13_draw 9 = .ok (.ldc2_w 466, 3) := by decide +kernel
theorem dX13_draw_12 : decode cX13_draw 12 = .ok (.ladd, 1) := by decide +kernel
theorem dX13_draw_13 : decode cX13_draw 13 = .ok (.ldc2_w 468, 3) := by decide +kernel
theorem dX13_draw_16 : decode cX13_draw 16 = .ok (.lrem, 1) := by decide +kernel
theorem dX13_draw_17 : decode cX13_draw 17 = .ok (.putfield 460, 3) := by decide +kernel
theorem dX13_draw_20 : decode cX13_draw 20 = .ok (.aload_n 0, 1) := by decide +kernel
theorem dX13_draw_21 : decode cX13_draw 21 = .ok (.getfield 460, 3) := by decide +kernel
theorem dX13_draw_24 : decode cX13_draw 24 = .ok (.ldc2_w 470, 3) := by decide +kernel
theorem dX13_draw_27 : decode cX13_draw 27 = .ok (.ldiv, 1) := by decide +kernel
theorem dX13_draw_28 : decode cX13_draw 28 = .ok (.iload_n 1, 1) := by decide +kernel
theorem dX13_draw_29 : decode cX13_draw 29 = .ok (.i2l, 1) := by decide +kernel
theorem dX13_draw_30 : decode cX13_draw 30 = .ok (.lrem, 1) := by decide +kernel
theorem dX13_draw_31 : decode cX13_draw 31 = .ok (.l2i, 1) := by decide +kernel
theorem dX13_draw_32 : decode cX13_draw 32 = .ok (.ireturn, 1) := by decide +kernel
theorem dX13_drawsNight_0 : decode cX13_drawsNight 0 = .ok (.aload_n 0, 1) := by decide +kernel
theorem dX13_drawsNight_1 : decode cX13_drawsNight 1 = .ok (.aload_n 0, 1) := by decide +kernel
theorem dX13_drawsNight_2 : decode cX13_drawsNight 2 = .ok (.invokevirtual 320, 3) := by decide +kernel
theorem dX13_drawsNight_5 : decode cX13_drawsNight 5 = .ok (.invokevirtual 472, 3) := by decide +kernel
theorem dX13_drawsNight_8 : decode cX13_drawsNight 8 = .ok (.istore_n 1, 1) := by decide +kernel
theorem dX13_drawsNight_9 : decode cX13_drawsNight 9 = .ok (.aload_n 0, 1) := by decide +kernel
theorem dX13_drawsNight_10 : decode cX13_drawsNight 10 = .ok (.iconst 4, 1) := by decide +kernel
theorem dX13_drawsNight_11 : decode cX13_drawsNight 11 = .ok (.invokevirtual 472, 3) := by decide +kernel
theorem dX13_drawsNight_14 : decode cX13_drawsNight 14 = .ok (.istore_n 2, 1) := by decide +kernel
theorem dX13_drawsNight_15 : decode cX13_drawsNight 15 = .ok (.aload_n 0, 1) := by decide +kernel
theorem dX13_drawsNight_16 : decode cX13_drawsNight 16 = .ok (.sipush 1452, 3) := by decide +kernel
theorem dX13_drawsNight_19 : decode cX13_drawsNight 19 = .ok (.iload_n 1, 1) := by decide +kernel
theorem dX13_drawsNight_20 : decode cX13_drawsNight 20 = .ok (.invokevirtual 358, 3) := by decide +kernel
theorem dX13_drawsNight_23 : decode cX13_drawsNight 23 = .ok (.istore_n 3, 1) := by decide +kernel
theorem dX13_drawsNight_24 : decode cX13_drawsNight 24 = .ok (.iload_n 3, 1) := by decide +kernel
theorem dX13_drawsNight_25 : decode cX13_drawsNight 25 = .ok (.ifCond .ne 7, 3) := by decide +kernel
theorem dX13_drawsNight_28 : decode cX13_drawsNight 28 = .ok (.iconst (-1), 1) := by decide +kernel
theorem dX13_drawsNight_29 : decode cX13_drawsNight 29 = .ok (.goto 7, 3) := by decide +kernel
theorem dX13_drawsNight_32 : decode cX13_drawsNight 32 = .ok (.iload_n 3, 1) := by decide +kernel
theorem dX13_drawsNight_33 : decode cX13_drawsNight 33 = .ok (.invokestatic 283, 3) := by decide +kernel
theorem dX13_drawsNight_36 : decode cX13_drawsNight 36 = .ok (.istore 4, 2) := by decide +kernel
theorem dX13_drawsNight_38 : decode cX13_drawsNight 38 = .ok (.iload_n 2, 1) := by decide +kernel
theorem dX13_drawsNight_39 : decode cX13_drawsNight 39 = .ok (.ifCond .ne 75, 3) := by decide +kernel
theorem dX13_drawsNight_42 : decode cX13_drawsNight 42 = .ok (.aload_n 0, 1) := by decide +kernel
theorem dX13_drawsNight_43 : decode cX13_drawsNight 43 = .ok (.invokevirtual 336, 3) := by decide +kernel
theorem dX13_drawsNight_46 : decode cX13_drawsNight 46 = .ok (.ifCond .le 68, 3) := by decide +kernel
theorem dX13_drawsNight_49 : decode cX13_drawsNight 49 = .ok (.aload_n 0, 1) := by decide +kernel
theorem dX13_drawsNight_50 : decode cX13_drawsNight 50 = .ok (.aload_n 0, 1) := by decide +kernel
theorem dX13_drawsNight_51 : decode cX13_drawsNight 51 = .ok (.invokevirtual 336, 3) := by decide +kernel
theorem dX13_drawsNight_54 : decode cX13_drawsNight 54 = .ok (.invokevirtual 472, 3) := by decide +kernel
theorem dX13_drawsNight_57 : decode cX13_drawsNight 57 = .ok (.istore 5, 2) := by decide +kernel
theorem dX13_drawsNight_59 : decode cX13_drawsNight 59 = .ok (.aload_n 0, 1) := by decide +kernel
theorem dX13_drawsNight_60 : decode cX13_drawsNight 60 = .ok (.iload_n 1, 1) := by decide +kernel
theorem dX13_drawsNight_61 : decode cX13_drawsNight 61 = .ok (.iconst 0, 1) := by decide +kernel
theorem dX13_drawsNight_62 : decode cX13_drawsNight 62 = .ok (.invokevirtual 323, 3) := by decide +kernel
theorem dX13_drawsNight_65 : decode cX13_drawsNight 65 = .ok (.iconst 3, 1) := by decide +kernel
theorem dX13_drawsNight_66 : decode cX13_drawsNight 66 = .ok (.if_icmp .ne 13, 3) := by decide +kernel
theorem dX13_drawsNight_69 : decode cX13_drawsNight 69 = .ok (.aload_n 0, 1) := by decide +kernel
theorem dX13_drawsNight_70 : decode cX13_drawsNight 70 = .ok (.sipush 1452, 3) := by decide +kernel
theorem dX13_drawsNight_73 : decode cX13_drawsNight 73 = .ok (.invokevirtual 364, 3) := by decide +kernel
theorem dX13_drawsNight_76 : decode cX13_drawsNight 76 = .ok (.goto 5, 3) := by decide +kernel
theorem dX13_drawsNight_79 : decode cX13_drawsNight 79 = .ok (.iload 4, 2) := by decide +kernel
theorem dX13_drawsNight_81 : decode cX13_drawsNight 81 = .ok (.istore 6, 2) := by decide +kernel
theorem dX13_drawsNight_83 : decode cX13_drawsNight 83 = .ok (.aload_n 0, 1) := by decide +kernel
theorem dX13_drawsNight_84 : decode cX13_drawsNight 84 = .ok (.sipush 1452, 3) := by decide +kernel
theorem dX13_drawsNight_87 : decode cX13_drawsNight 87 = .ok (.iload_n 1, 1) := by decide +kernel
theorem dX13_drawsNight_88 : decode cX13_drawsNight 88 = .ok (.iload 6, 2) := by decide +kernel
theorem dX13_drawsNight_90 : decode cX13_drawsNight 90 = .ok (.iload 5, 2) := by decide +kernel
theorem dX13_drawsNight_92 : decode cX13_drawsNight 92 = .ok (.invokevirtual 382, 3) := by decide +kernel
theorem dX13_drawsNight_95 : decode cX13_drawsNight 95 = .ok (.ifCond .eq 16, 3) := by decide +kernel
theorem dX13_drawsNight_98 : decode cX13_drawsNight 98 = .ok (.aload_n 0, 1) := by decide +kernel
theorem dX13_drawsNight_99 : decode cX13_drawsNight 99 = .ok (.sipush 1452, 3) := by decide +kernel
theorem dX13_drawsNight_102 : decode cX13_drawsNight 102 = .ok (.iload_n 1, 1) := by decide +kernel
theorem dX13_drawsNight_103 : decode cX13_drawsNight 103 = .ok (.iload 6, 2) := by decide +kernel
theorem dX13_drawsNight_105 : decode cX13_drawsNight 105 = .ok (.iload 5, 2) := by decide +kernel
theorem dX13_drawsNight_107 : decode cX13_drawsNight 107 = .ok (.invokevirtual 386, 3) := by decide +kernel
theorem dX13_drawsNight_110 : decode cX13_drawsNight 110 = .ok (.pop, 1) := by decide +kernel
theorem dX13_drawsNight_111 : decode cX13_drawsNight 111 = .ok (.goto 76, 3) := by decide +kernel
theorem dX13_drawsNight_114 : decode cX13_drawsNight 114 = .ok (.iload_n 2, 1) := by decide +kernel
theorem dX13_drawsNight_115 : decode cX13_drawsNight 115 = .ok (.iconst 1, 1) := by decide +kernel
theorem dX13_drawsNight_116 : decode cX13_drawsNight 116 = .ok (.if_icmp .ne 40, 3) := by decide +kernel
theorem dX13_drawsNight_119 : decode cX13_drawsNight 119 = .ok (.iload_n 3, 1) := by decide +kernel
theorem dX13_drawsNight_120 : decode cX13_drawsNight 120 = .ok (.ifCond .eq 36, 3) := by decide +kernel
theorem dX13_drawsNight_123 : decode cX13_drawsNight 123 = .ok (.bipush 7, 2) := by decide +kernel
theorem dX13_drawsNight_125 : decode cX13_drawsNight 125 = .ok (.istore 5, 2) := by decide +kernel
theorem dX13_drawsNight_127 : decode cX13_drawsNight 127 = .ok (.iload_n 3, 1) := by decide +kernel
theorem dX13_drawsNight_128 : decode cX13_drawsNight 128 = .ok (.iload 5, 2) := by decide +kernel
theorem dX13_drawsNight_130 : decode cX13_drawsNight 130 = .ok (.ishr, 1) := by decide +kernel
theorem dX13_drawsNight_131 : decode cX13_drawsNight 131 = .ok (.iconst 1, 1) := by decide +kernel
theorem dX13_drawsNight_132 : decode cX13_drawsNight 132 = .ok (.iand, 1) := by decide +kernel
theorem dX13_drawsNight_133 : decode cX13_drawsNight 133 = .ok (.ifCond .ne 9, 3) := by decide +kernel
theorem dX13_drawsNight_136 : decode cX13_drawsNight 136 = .ok (.iinc 5 (-1), 3) := by decide +kernel
theorem dX13_drawsNight_139 : decode cX13_drawsNight 139 = .ok (.goto (-12), 3) := by decide +kernel
theorem dX13_drawsNight_142 : decode cX13_drawsNight 142 = .ok (.aload_n 0, 1) := by decide +kernel
theorem dX13_drawsNight_143 : decode cX13_drawsNight 143 = .ok (.sipush 1452, 3) := by decide +kernel
theorem dX13_drawsNight_146 : decode cX13_drawsNight 146 = .ok (.iload_n 1, 1) := by decide +kernel
theorem dX13_drawsNight_147 : decode cX13_drawsNight 147 = .ok (.iload 5, 2) := by decide +kernel
theorem dX13_drawsNight_149 : decode cX13_drawsNight 149 = .ok (.invokevirtual 390, 3) := by decide +kernel
theorem dX13_drawsNight_152 : decode cX13_drawsNight 152 = .ok (.pop, 1) := by decide +kernel
theorem dX13_drawsNight_153 : decode cX13_drawsNight 153 = .ok (.goto 34, 3) := by decide +kernel
theorem dX13_drawsNight_156 : decode cX13_drawsNight 156 = .ok (.iload_n 2, 1) := by decide +kernel
theorem dX13_drawsNight_157 : decode cX13_drawsNight 157 = .ok (.iconst 1, 1) := by decide +kernel
theorem dX13_drawsNight_158 : decode cX13_drawsNight 158 = .ok (.if_icmp .le 29, 3) := by decide +kernel
theorem dX13_drawsNight_161 : decode cX13_drawsNight 161 = .ok (.aload_n 0, 1) := by decide +kernel
theorem dX13_drawsNight_162 : decode cX13_drawsNight 162 = .ok (.sipush 1452, 3) := by decide +kernel
theorem dX13_drawsNight_165 : decode cX13_drawsNight 165 = .ok (.iload_n 1, 1) := by decide +kernel
theorem dX13_drawsNight_166 : decode cX13_drawsNight 166 = .ok (.iload 4, 2) := by decide +kernel
theorem dX13_drawsNight_168 : decode cX13_drawsNight 168 = .ok (.invokevirtual 367, 3) := by decide +kernel
theorem dX13_drawsNight_171 : decode cX13_drawsNight 171 = .ok (.ifCond .eq 16, 3) := by decide +kernel
theorem dX13_drawsNight_174 : decode cX13_drawsNight 174 = .ok (.aload_n 0, 1) := by decide +kernel
theorem dX13_drawsNight_175 : decode cX13_drawsNight 175 = .ok (.sipush 1452, 3) := by decide +kernel
theorem dX13_drawsNight_178 : decode cX13_drawsNight 178 = .ok (.iload_n 1, 1) := by decide +kernel
theorem dX13_drawsNight_179 : decode cX13_drawsNight 179 = .ok (.iload 4, 2) := by decide +kernel
theorem dX13_drawsNight_181 : decode cX13_drawsNight 181 = .ok (.invokevirtual 373, 3) := by decide +kernel
theorem dX13_drawsNight_184 : decode cX13_drawsNight 184 = .ok (.pop, 1) := by decide +kernel
theorem dX13_drawsNight_185 : decode cX13_drawsNight 185 = .ok (.iconst 1, 1) := by decide +kernel
theorem dX13_drawsNight_186 : decode cX13_drawsNight 186 = .ok (.ireturn, 1) := by decide +kernel
theorem dX13_drawsNight_187 : decode cX13_drawsNight 187 = .ok (.iconst 0, 1) := by decide +kernel
theorem dX13_drawsNight_188 : decode cX13_drawsNight 188 = .ok (.ireturn, 1) := by decide +kernel
theorem dX13_years_0 : decode cX13_years 0 = .ok (.aload_n 0, 1) := by decide +kernel
theorem dX13_years_1 : decode cX13_years 1 = .ok (.iconst 0, 1) := by decide +kernel
theorem dX13_years_2 : decode cX13_years 2 = .ok (.putfield 1, 3) := by decide +kernel
theorem dX13_years_5 : decode cX13_years 5 = .ok (.iload_n 1, 1) := by decide +kernel
theorem dX13_years_6 : decode cX13_years 6 = .ok (.iconst 0, 1) := by decide +kernel
theorem dX13_years_7 : decode cX13_years 7 = .ok (.sipush 9999, 3) := by decide +kernel
theorem dX13_years_10 : decode cX13_years 10 = .ok (.invokestatic 231, 3) := by decide +kernel
theorem dX13_years_13 : decode cX13_years 13 = .ok (.ifCond .eq 22, 3) := by decide +kernel
theorem dX13_years_16 : decode cX13_years 16 = .ok (.iload_n 2, 1) := by decide +kernel
theorem dX13_years_17 : decode cX13_years 17 = .ok (.iconst 1, 1) := by decide +kernel
theorem dX13_years_18 : decode cX13_years 18 = .ok (.bipush 60, 2) := by decide +kernel
theorem dX13_years_20 : decode cX13_years 20 = .ok (.invokestatic 231, 3) := by decide +kernel
theorem dX13_years_23 : decode cX13_years 23 = .ok (.ifCond .eq 12, 3) := by decide +kernel
theorem dX13_years_26 : decode cX13_years 26 = .ok (.iload_n 3, 1) := by decide +kernel
theorem dX13_years_27 : decode cX13_years 27 = .ok (.iconst 0, 1) := by decide +kernel
theorem dX13_years_28 : decode cX13_years 28 = .ok (.iconst 2, 1) := by decide +kernel
theorem dX13_years_29 : decode cX13_years 29 = .ok (.invokestatic 231, 3) := by decide +kernel
theorem dX13_years_32 : decode cX13_years 32 = .ok (.ifCond .ne 5, 3) := by decide +kernel
theorem dX13_years_35 : decode cX13_years 35 = .ok (.iconst (-1), 1) := by decide +kernel
theorem dX13_years_36 : decode cX13_years 36 = .ok (.ireturn, 1) := by decide +kernel
theorem dX13_years_37 : decode cX13_years 37 = .ok (.aload_n 0, 1) := by decide +kernel
theorem dX13_years_38 : decode cX13_years 38 = .ok (.iconst 0, 1) := by decide +kernel
theorem dX13_years_39 : decode cX13_years 39 = .ok (.sipush 1452, 3) := by decide +kernel
theorem dX13_years_42 : decode cX13_years 42 = .ok (.bipush 48, 2) := by decide +kernel
theorem dX13_years_44 : decode cX13_years 44 = .ok (.invokevirtual 332, 3) := by decide +kernel
theorem dX13_years_47 : decode cX13_years 47 = .ok (.aload_n 0, 1) := by decide +kernel
theorem dX13_years_48 : decode cX13_years 48 = .ok (.iload_n 1, 1) := by decide +kernel
theorem dX13_years_49 : decode cX13_years 49 = .ok (.i2l, 1) := by decide +kernel
theorem dX13_years_50 : decode cX13_years 50 = .ok (.putfield 460, 3) := by decide +kernel
theorem dX13_years_53 : decode cX13_years 53 = .ok (.iconst 0, 1) := by decide +kernel
theorem dX13_years_54 : decode cX13_years 54 = .ok (.istore 4, 2) := by decide +kernel
theorem dX13_years_56 : decode cX13_years 56 = .ok (.iconst 0, 1) := by decide +kernel
theorem dX13_years_57 : decode cX13_years 57 = .ok (.istore 5, 2) := by decide +kernel
theorem dX13_years_59 : decode cX13_years 59 = .ok (.iload 5, 2) := by decide +kernel
theorem dX13_years_61 : decode cX13_years 61 = .ok (.iload_n 2, 1) := by decide +kernel
theorem dX13_years_62 : decode cX13_years 62 = .ok (.if_icmp .ge 40, 3) := by decide +kernel
theorem dX13_years_65 : decode cX13_years 65 = .ok (.iload 4, 2) := by decide +kernel
theorem dX13_years_67 : decode cX13_years 67 = .ok (.aload_n 0, 1) := by decide +kernel
theorem dX13_years_68 : decode cX13_years 68 = .ok (.invokevirtual 320, 3) := by decide +kernel
theorem dX13_years_71 : decode cX13_years 71 = .ok (.ifCond .le 14, 3) := by decide +kernel
theorem dX13_years_74 : decode cX13_years 74 = .ok (.aload_n 0, 1) := by decide +kernel
theorem dX13_years_75 : decode cX13_years 75 = .ok (.invokevirtual 475, 3) := by decide +kernel
theorem dX13_years_78 : decode cX13_years 78 = .ok (.ifCond .eq 7, 3) := by decide +kernel
theorem dX13_years_81 : decode cX13_years 81 = .ok (.iconst 1, 1) := by decide +kernel
theorem dX13_years_82 : decode cX13_years 82 = .ok (.goto 4, 3) := by decide +kernel
theorem dX13_years_85 : decode cX13_years 85 = .ok (.iconst 0, 1) := by decide +kernel
theorem dX13_years_86 : decode cX13_years 86 = .ok (.iadd, 1) := by decide +kernel
theorem dX13_years_87 : decode cX13_years 87 = .ok (.istore 4, 2) := by decide +kernel
theorem dX13_years_89 : decode cX13_years 89 = .ok (.aload_n 0, 1) := by decide +kernel
theorem dX13_years_90 : decode cX13_years 90 = .ok (.sipush 1452, 3) := by decide +kernel
theorem dX13_years_93 : decode cX13_years 93 = .ok (.invokevirtual 393, 3) := by decide +kernel
theorem dX13_years_96 : decode cX13_years 96 = .ok (.iinc 5 1, 3) := by decide +kernel
theorem dX13_years_99 : decode cX13_years 99 = .ok (.goto (-40), 3) := by decide +kernel
theorem dX13_years_102 : decode cX13_years 102 = .ok (.iload_n 3, 1) := by decide +kernel
theorem dX13_years_103 : decode cX13_years 103 = .ok (.ifCond .ne 8, 3) := by decide +kernel
theorem dX13_years_106 : decode cX13_years 106 = .ok (.iload 4, 2) := by decide +kernel
theorem dX13_years_108 : decode cX13_years 108 = .ok (.goto 37, 3) := by decide +kernel
theorem dX13_years_111 : decode cX13_years 111 = .ok (.iload_n 3, 1) := by decide +kernel
theorem dX13_years_112 : decode cX13_years 112 = .ok (.iconst 1, 1) := by decide +kernel
theorem dX13_years_113 : decode cX13_years 113 = .ok (.if_icmp .ne 13, 3) := by decide +kernel
theorem dX13_years_116 : decode cX13_years 116 = .ok (.aload_n 0, 1) := by decide +kernel
theorem dX13_years_117 : decode cX13_years 117 = .ok (.sipush 1452, 3) := by decide +kernel
theorem dX13_years_120 : decode cX13_years 120 = .ok (.invokevirtual 403, 3) := by decide +kernel
theorem dX13_years_123 : decode cX13_years 123 = .ok (.goto 22, 3) := by decide +kernel
theorem dX13_years_126 : decode cX13_years 126 = .ok (.aload_n 0, 1) := by decide +kernel
theorem dX13_years_127 : decode cX13_years 127 = .ok (.getfield 125, 3) := by decide +kernel
theorem dX13_years_130 : decode cX13_years 130 = .ok (.sipush 1455, 3) := by decide +kernel
theorem dX13_years_133 : decode cX13_years 133 = .ok (.aload_n 0, 1) := by decide +kernel
theorem dX13_years_134 : decode cX13_years 134 = .ok (.sipush 1452, 3) := by decide +kernel
theorem dX13_years_137 : decode cX13_years 137 = .ok (.invokevirtual 364, 3) := by decide +kernel
theorem dX13_years_140 : decode cX13_years 140 = .ok (.iadd, 1) := by decide +kernel
theorem dX13_years_141 : decode cX13_years 141 = .ok (.iaload, 1) := by decide +kernel
theorem dX13_years_142 : decode cX13_years 142 = .ok (.invokestatic 339, 3) := by decide +kernel
theorem dX13_years_145 : decode cX13_years 145 = .ok (.ireturn, 1) := by decide +kernel
theorem dX13_mark_0 : decode cX13_mark 0 = .ok (.aload_n 0, 1) := by decide +kernel
theorem dX13_mark_1 : decode cX13_mark 1 = .ok (.iconst 0, 1) := by decide +kernel
theorem dX13_mark_2 : decode cX13_mark 2 = .ok (.putfield 1, 3) := by decide +kernel
theorem dX13_mark_5 : decode cX13_mark 5 = .ok (.iload_n 1, 1) := by decide +kernel
theorem dX13_mark_6 : decode cX13_mark 6 = .ok (.iconst 0, 1) := by decide +kernel
theorem dX13_mark_7 : decode cX13_mark 7 = .ok (.iconst 3, 1) := by decide +kernel
theorem dX13_mark_8 : decode cX13_mark 8 = .ok (.invokestatic 231, 3) := by decide +kernel
theorem dX13_mark_11 : decode cX13_mark 11 = .ok (.ifCond .eq 16, 3) := by decide +kernel
theorem dX13_mark_14 : decode cX13_mark 14 = .ok (.iload_n 2, 1) := by decide +kernel
theorem dX13_mark_15 : decode cX13_mark 15 = .ok (.ifCond .eq 14, 3) := by decide +kernel
theorem dX13_mark_18 : decode cX13_mark 18 = .ok (.aload_n 0, 1) := by decide +kernel
theorem dX13_mark_19 : decode cX13_mark 19 = .ok (.getfield 128, 3) := by decide +kernel
theorem dX13_mark_22 : decode cX13_mark 22 = .ok (.iload_n 1, 1) := by decide +kernel
theorem dX13_mark_23 : decode cX13_mark 23 = .ok (.baload, 1) := by decide +kernel
theorem dX13_mark_24 : decode cX13_mark 24 = .ok (.ifCond .ne 5, 3) := by decide +kernel
theorem dX13_mark_27 : decode cX13_mark 27 = .ok (.iconst 0, 1) := by decide +kernel
theorem dX13_mark_28 : decode cX13_mark 28 = .ok (.ireturn, 1) := by decide +kernel
theorem dX13_mark_29 : decode cX13_mark 29 = .ok (.aload_n 0, 1) := by decide +kernel
theorem dX13_mark_30 : decode cX13_mark 30 = .ok (.getfield 128, 3) := by decide +kernel
theorem dX13_mark_33 : decode cX13_mark 33 = .ok (.iload_n 1, 1) := by decide +kernel
theorem dX13_mark_34 : decode cX13_mark 34 = .ok (.iconst 1, 1) := by decide +kernel
theorem dX13_mark_35 : decode cX13_mark 35 = .ok (.bastore, 1) := by decide +kernel
theorem dX13_mark_36 : decode cX13_mark 36 = .ok (.aload_n 0, 1) := by decide +kernel
theorem dX13_mark_37 : decode cX13_mark 37 = .ok (.iload_n 2, 1) := by decide +kernel
theorem dX13_mark_38 : decode cX13_mark 38 = .ok (.ifCond .eq 12, 3) := by decide +kernel
theorem dX13_mark_41 : decode cX13_mark 41 = .ok (.bipush 66, 2) := by decide +kernel
theorem dX13_mark_43 : decode cX13_mark 43 = .ok (.iconst 1, 1) := by decide +kernel
theorem dX13_mark_44 : decode cX13_mark 44 = .ok (.iload_n 1, 1) := by decide +kernel
theorem dX13_mark_45 : decode cX13_mark 45 = .ok (.iadd, 1) := by decide +kernel
theorem dX13_mark_46 : decode cX13_mark 46 = .ok (.imul, 1) := by decide +kernel
theorem dX13_mark_47 : decode cX13_mark 47 = .ok (.goto 4, 3) := by decide +kernel
theorem dX13_mark_50 : decode cX13_mark 50 = .ok (.iconst 0, 1) := by decide +kernel
theorem dX13_mark_51 : decode cX13_mark 51 = .ok (.iload_n 2, 1) := by decide +kernel
theorem dX13_mark_52 : decode cX13_mark 52 = .ok (.ifCond .eq 7, 3) := by decide +kernel
theorem dX13_mark_55 : decode cX13_mark 55 = .ok (.iconst 0, 1) := by decide +kernel
theorem dX13_mark_56 : decode cX13_mark 56 = .ok (.goto 9, 3) := by decide +kernel
theorem dX13_mark_59 : decode cX13_mark 59 = .ok (.bipush 66, 2) := by decide +kernel
theorem dX13_mark_61 : decode cX13_mark 61 = .ok (.iconst 1, 1) := by decide +kernel
theorem dX13_mark_62 : decode cX13_mark 62 = .ok (.iload_n 1, 1) := by decide +kernel
theorem dX13_mark_63 : decode cX13_mark 63 = .ok (.iadd, 1) := by decide +kernel
theorem dX13_mark_64 : decode cX13_mark 64 = .ok (.imul, 1) := by decide +kernel
theorem dX13_mark_65 : decode cX13_mark 65 = .ok (.bipush 66, 2) := by decide +kernel
theorem dX13_mark_67 : decode cX13_mark 67 = .ok (.invokevirtual 332, 3) := by decide +kernel
theorem dX13_mark_70 : decode cX13_mark 70 = .ok (.aload_n 0, 1) := by decide +kernel
theorem dX13_mark_71 : decode cX13_mark 71 = .ok (.iload_n 2, 1) := by decide +kernel
theorem dX13_mark_72 : decode cX13_mark 72 = .ok (.ifCond .eq 7, 3) := by decide +kernel
theorem dX13_mark_75 : decode cX13_mark 75 = .ok (.iconst 0, 1) := by decide +kernel
theorem dX13_mark_76 : decode cX13_mark 76 = .ok (.goto 7, 3) := by decide +kernel
theorem dX13_mark_79 : decode cX13_mark 79 = .ok (.aload_n 0, 1) := by decide +kernel
theorem dX13_mark_80 : decode cX13_mark 80 = .ok (.getfield 329, 3) := by decide +kernel
theorem dX13_mark_83 : decode cX13_mark 83 = .ok (.putfield 329, 3) := by decide +kernel
theorem dX13_mark_86 : decode cX13_mark 86 = .ok (.iconst 1, 1) := by decide +kernel
theorem dX13_mark_87 : decode cX13_mark 87 = .ok (.ireturn, 1) := by decide +kernel
theorem dX13_count_0 : decode cX13_count 0 = .ok (.aload_n 0, 1) := by decide +kernel
theorem dX13_count_1 : decode cX13_count 1 = .ok (.iconst 0, 1) := by decide +kernel
theorem dX13_count_2 : decode cX13_count 2 = .ok (.putfield 1, 3) := by decide +kernel
theorem dX13_count_5 : decode cX13_count 5 = .ok (.iload_n 1, 1) := by decide +kernel
theorem dX13_count_6 : decode cX13_count 6 = .ok (.tableswitch 135 0 11 #[62, 67, 74, 79, 84, 91, 97, 103, 110, 117, 125, 130], 62) := by decide +kernel
theorem dX13_count_68 : decode cX13_count 68 = .ok (.aload_n 0, 1) := by decide +kernel
theorem dX13_count_69 : decode cX13_count 69 = .ok (.invokevirtual 336, 3) := by decide +kernel
theorem dX13_count_72 : decode cX13_count 72 = .ok (.ireturn, 1) := by decide +kernel
theorem dX13_count_73 : decode cX13_count 73 = .ok (.aload_n 0, 1) := by decide +kernel
theorem dX13_count_74 : decode cX13_count 74 = .ok (.getfield 125, 3) := by decide +kernel
theorem dX13_count_77 : decode cX13_count 77 = .ok (.iconst 2, 1) := by decide +kernel
theorem dX13_count_78 : decode cX13_count 78 = .ok (.iaload, 1) := by decide +kernel
theorem dX13_count_79 : decode cX13_count 79 = .ok (.ireturn, 1) := by decide +kernel
theorem dX13_count_80 : decode cX13_count 80 = .ok (.aload_n 0, 1) := by decide +kernel
theorem dX13_count_81 : decode cX13_count 81 = .ok (.invokevirtual 320, 3) := by decide +kernel
theorem dX13_count_84 : decode cX13_count 84 = .ok (.ireturn, 1) := by decide +kernel
theorem dX13_count_85 : decode cX13_count 85 = .ok (.aload_n 0, 1) := by decide +kernel
theorem dX13_count_86 : decode cX13_count 86 = .ok (.invokevirtual 436, 3) := by decide +kernel
theorem dX13_count_89 : decode cX13_count 89 = .ok (.ireturn, 1) := by decide +kernel
theorem dX13_count_90 : decode cX13_count 90 = .ok (.aload_n 0, 1) := by decide +kernel
theorem dX13_count_91 : decode cX13_count 91 = .ok (.getfield 125, 3) := by decide +kernel
theorem dX13_count_94 : decode cX13_count 94 = .ok (.iconst 0, 1) := by decide +kernel
theorem dX13_count_95 : decode cX13_count 95 = .ok (.iaload, 1) := by decide +kernel
theorem dX13_count_96 : decode cX13_count 96 = .ok (.ireturn, 1) := by decide +kernel
theorem dX13_count_97 : decode cX13_count 97 = .ok (.aload_n 0, 1) := by decide +kernel
theorem dX13_count_98 : decode cX13_count 98 = .ok (.iconst 0, 1) := by decide +kernel
theorem dX13_count_99 : decode cX13_count 99 = .ok (.invokevirtual 364, 3) := by decide +kernel
theorem dX13_count_102 : decode cX13_count 102 = .ok (.ireturn, 1) := by decide +kernel
theorem dX13_count_103 : decode cX13_count 103 = .ok (.aload_n 0, 1) := by decide +kernel
theorem dX13_count_104 : decode cX13_count 104 = .ok (.iconst 0, 1) := by decide +kernel
theorem dX13_count_105 : decode cX13_count 105 = .ok (.invokevirtual 403, 3) := by decide +kernel
theorem dX13_count_108 : decode cX13_count 108 = .ok (.ireturn, 1) := by decide +kernel
theorem dX13_count_109 : decode cX13_count 109 = .ok (.aload_n 0, 1) := by decide +kernel
theorem dX13_count_110 : decode cX13_count 110 = .ok (.getfield 125, 3) := by decide +kernel
theorem dX13_count_113 : decode cX13_count 113 = .ok (.iconst 1, 1) := by decide +kernel
theorem dX13_count_114 : decode cX13_count 114 = .ok (.iaload, 1) := by decide +kernel
theorem dX13_count_115 : decode cX13_count 115 = .ok (.ireturn, 1) := by decide +kernel
theorem dX13_count_116 : decode cX13_count 116 = .ok (.aload_n 0, 1) := by decide +kernel
theorem dX13_count_117 : decode cX13_count 117 = .ok (.getfield 116, 3) := by decide +kernel
theorem dX13_count_120 : decode cX13_count 120 = .ok (.iconst 0, 1) := by decide +kernel
theorem dX13_count_121 : decode cX13_count 121 = .ok (.iaload, 1) := by decide +kernel
theorem dX13_count_122 : decode cX13_count 122 = .ok (.ireturn, 1) := by decide +kernel
theorem dX13_count_123 : decode cX13_count 123 = .ok (.aload_n 0, 1) := by decide +kernel
theorem dX13_count_124 : decode cX13_count 124 = .ok (.getfield 125, 3) := by decide +kernel
theorem dX13_count_127 : decode cX13_count 127 = .ok (.bipush 48, 2) := by decide +kernel
theorem dX13_count_129 : decode cX13_count 129 = .ok (.iaload, 1) := by decide +kernel
theorem dX13_count_130 : decode cX13_count 130 = .ok (.ireturn, 1) := by decide +kernel
theorem dX13_count_131 : decode cX13_count 131 = .ok (.aload_n 0, 1) := by decide +kernel
theorem dX13_count_132 : decode cX13_count 132 = .ok (.getfield 329, 3) := by decide +kernel
theorem dX13_count_135 : decode cX13_count 135 = .ok (.ireturn, 1) := by decide +kernel
theorem dX13_count_136 : decode cX13_count 136 = .ok (.aload_n 0, 1) := by decide +kernel
theorem dX13_count_137 : decode cX13_count 137 = .ok (.getfield 11, 3) := by decide +kernel
theorem dX13_count_140 : decode cX13_count 140 = .ok (.ireturn, 1) := by decide +kernel
theorem dX13_count_141 : decode cX13_count 141 = .ok (.iconst (-1), 1) := by decide +kernel
theorem dX13_count_142 : decode cX13_count 142 = .ok (.ireturn, 1) := by decide +kernel
theorem dJ11_isValidCodePoint_9a6ad_0 : decode cJ11_isValidCodePoint_9a6ad 0 = .ok (.iload_n 0, 1) := by decide +kernel
theorem dJ11_isValidCodePoint_9a6ad_1 : decode cJ11_isValidCodePoint_9a6ad 1 = .ok (.bipush 16, 2) := by decide +kernel
theorem dJ11_isValidCodePoint_9a6ad_3 : decode cJ11_isValidCodePoint_9a6ad 3 = .ok (.iushr, 1) := by decide +kernel
theorem dJ11_isValidCodePoint_9a6ad_4 : decode cJ11_isValidCodePoint_9a6ad 4 = .ok (.istore_n 1, 1) := by decide +kernel
theorem dJ11_isValidCodePoint_9a6ad_5 : decode cJ11_isValidCodePoint_9a6ad 5 = .ok (.iload_n 1, 1) := by decide +kernel
theorem dJ11_isValidCodePoint_9a6ad_6 : decode cJ11_isValidCodePoint_9a6ad 6 = .ok (.bipush 17, 2) := by decide +kernel
theorem dJ11_isValidCodePoint_9a6ad_8 : decode cJ11_isValidCodePoint_9a6ad 8 = .ok (.if_icmp .ge 7, 3) := by decide +kernel
theorem dJ11_isValidCodePoint_9a6ad_11 : decode cJ11_isValidCodePoint_9a6ad 11 = .ok (.iconst 1, 1) := by decide +kernel
theorem dJ11_isValidCodePoint_9a6ad_12 : decode cJ11_isValidCodePoint_9a6ad 12 = .ok (.goto 4, 3) := by decide +kernel
theorem dJ11_isValidCodePoint_9a6ad_15 : decode cJ11_isValidCodePoint_9a6ad 15 = .ok (.iconst 0, 1) := by decide +kernel
theorem dJ11_isValidCodePoint_9a6ad_16 : decode cJ11_isValidCodePoint_9a6ad 16 = .ok (.ireturn, 1) := by decide +kernel
theorem dJ11_highSurrogate_5068e_0 : decode cJ11_highSurrogate_5068e 0 = .ok (.iload_n 0, 1) := by decide +kernel
theorem dJ11_highSurrogate_5068e_1 : decode cJ11_highSurrogate_5068e 1 = .ok (.bipush 10, 2) := by decide +kernel
theorem dJ11_highSurrogate_5068e_3 : decode cJ11_highSurrogate_5068e 3 = .ok (.iushr, 1) := by decide +kernel
theorem dJ11_highSurrogate_5068e_4 : decode cJ11_highSurrogate_5068e 4 = .ok (.ldc 110, 2) := by decide +kernel
theorem dJ11_highSurrogate_5068e_6 : decode cJ11_highSurrogate_5068e 6 = .ok (.iadd, 1) := by decide +kernel
theorem dJ11_highSurrogate_5068e_7 : decode cJ11_highSurrogate_5068e 7 = .ok (.i2c, 1) := by decide +kernel
theorem dJ11_highSurrogate_5068e_8 : decode cJ11_highSurrogate_5068e 8 = .ok (.ireturn, 1) := by decide +kernel
theorem dJ11_lowSurrogate_5068e_0 : decode cJ11_lowSurrogate_5068e 0 = .ok (.iload_n 0, 1) := by decide +kernel
theorem dJ11_lowSurrogate_5068e_1 : decode cJ11_lowSurrogate_5068e 1 = .ok (.sipush 1023, 3) := by decide +kernel
theorem dJ11_lowSurrogate_5068e_4 : decode cJ11_lowSurrogate_5068e 4 = .ok (.iand, 1) := by decide +kernel
theorem dJ11_lowSurrogate_5068e_5 : decode cJ11_lowSurrogate_5068e 5 = .ok (.ldc 76, 2) := by decide +kernel
theorem dJ11_lowSurrogate_5068e_7 : decode cJ11_lowSurrogate_5068e 7 = .ok (.iadd, 1) := by decide +kernel
theorem dJ11_lowSurrogate_5068e_8 : decode cJ11_lowSurrogate_5068e 8 = .ok (.i2c, 1) := by decide +kernel
theorem dJ11_lowSurrogate_5068e_9 : decode cJ11_lowSurrogate_5068e 9 = .ok (.ireturn, 1) := by decide +kernel
theorem dJx29ce0_ordinal_8abf5_0 : decode cJx29ce0_ordinal_8abf5 0 = .ok (.aload_n 0, 1) := by decide +kernel
theorem dJx29ce0_ordinal_8abf5_1 : decode cJx29ce0_ordinal_8abf5 1 = .ok (.getfield 7, 3) := by decide +kernel
theorem dJx29ce0_ordinal_8abf5_4 : decode cJx29ce0_ordinal_8abf5 4 = .ok (.ireturn, 1) := by decide +kernel
theorem dJ6_numberOfLeadingZeros_0f7a4_0 : decode cJ6_numberOfLeadingZeros_0f7a4 0 = .ok (.iload_n 0, 1) := by decide +kernel
theorem dJ6_numberOfLeadingZeros_0f7a4_1 : decode cJ6_numberOfLeadingZeros_0f7a4 1 = .ok (.ifCond .gt 14, 3) := by decide +kernel
theorem dJ6_numberOfLeadingZeros_0f7a4_4 : decode cJ6_numberOfLeadingZeros_0f7a4 4 = .ok (.iload_n 0, 1) := by decide +kernel
theorem dJ6_numberOfLeadingZeros_0f7a4_5 : decode cJ6_numberOfLeadingZeros_0f7a4 5 = .ok (.ifCond .ne 8, 3) := by decide +kernel
theorem dJ6_numberOfLeadingZeros_0f7a4_8 : decode cJ6_numberOfLeadingZeros_0f7a4 8 = .ok (.bipush 32, 2) := by decide +kernel
theorem dJ6_numberOfLeadingZeros_0f7a4_10 : decode cJ6_numberOfLeadingZeros_0f7a4 10 = .ok (.goto 4, 3) := by decide +kernel
theorem dJ6_numberOfLeadingZeros_0f7a4_13 : decode cJ6_numberOfLeadingZeros_0f7a4 13 = .ok (.iconst 0, 1) := by decide +kernel
theorem dJ6_numberOfLeadingZeros_0f7a4_14 : decode cJ6_numberOfLeadingZeros_0f7a4 14 = .ok (.ireturn, 1) := by decide +kernel
theorem dJ6_numberOfLeadingZeros_0f7a4_15 : decode cJ6_numberOfLeadingZeros_0f7a4 15 = .ok (.bipush 31, 2) := by decide +kernel
theorem dJ6_numberOfLeadingZeros_0f7a4_17 : decode cJ6_numberOfLeadingZeros_0f7a4 17 = .ok (.istore_n 1, 1) := by decide +kernel
theorem dJ6_numberOfLeadingZeros_0f7a4_18 : decode cJ6_numberOfLeadingZeros_0f7a4 18 = .ok (.iload_n 0, 1) := by decide +kernel
theorem dJ6_numberOfLeadingZeros_0f7a4_19 : decode cJ6_numberOfLeadingZeros_0f7a4 19 = .ok (.ldc_w 264, 3) := by decide +kernel
theorem dJ6_numberOfLeadingZeros_0f7a4_22 : decode cJ6_numberOfLeadingZeros_0f7a4 22 = .ok (.if_icmp .lt 11, 3) := by decide +kernel
theorem dJ6_numberOfLeadingZeros_0f7a4_25 : decode cJ6_numberOfLeadingZeros_0f7a4 25 = .ok (.iinc 1 (-16), 3) := by decide +kernel
theorem dJ6_numberOfLeadingZeros_0f7a4_28 : decode cJ6_numberOfLeadingZeros_0f7a4 28 = .ok (.iload_n 0, 1) := by decide +kernel
theorem dJ6_numberOfLeadingZeros_0f7a4_29 : decode cJ6_numberOfLeadingZeros_0f7a4 29 = .ok (.bipush 16, 2) := by decide +kernel
theorem dJ6_numberOfLeadingZeros_0f7a4_31 : decode cJ6_numberOfLeadingZeros_0f7a4 31 = .ok (.iushr, 1) := by decide +kernel
theorem dJ6_numberOfLeadingZeros_0f7a4_32 : decode cJ6_numberOfLeadingZeros_0f7a4 32 = .ok (.istore_n 0, 1) := by decide +kernel
theorem dJ6_numberOfLeadingZeros_0f7a4_33 : decode cJ6_numberOfLeadingZeros_0f7a4 33 = .ok (.iload_n 0, 1) := by decide +kernel
theorem dJ6_numberOfLeadingZeros_0f7a4_34 : decode cJ6_numberOfLeadingZeros_0f7a4 34 = .ok (.sipush 256, 3) := by decide +kernel
theorem dJ6_numberOfLeadingZeros_0f7a4_37 : decode cJ6_numberOfLeadingZeros_0f7a4 37 = .ok (.if_icmp .lt 11, 3) := by decide +kernel
theorem dJ6_numberOfLeadingZeros_0f7a4_40 : decode cJ6_numberOfLeadingZeros_0f7a4 40 = .ok (.iinc 1 (-8), 3) := by decide +kernel
theorem dJ6_numberOfLeadingZeros_0f7a4_43 : decode cJ6_numberOfLeadingZeros_0f7a4 43 = .ok (.iload_n 0, 1) := by decide +kernel
theorem dJ6_numberOfLeadingZeros_0f7a4_44 : decode cJ6_numberOfLeadingZeros_0f7a4 44 = .ok (.bipush 8, 2) := by decide +kernel
theorem dJ6_numberOfLeadingZeros_0f7a4_46 : decode cJ6_numberOfLeadingZeros_0f7a4 46 = .ok (.iushr, 1) := by decide +kernel
theorem dJ6_numberOfLeadingZeros_0f7a4_47 : decode cJ6_numberOfLeadingZeros_0f7a4 47 = .ok (.istore_n 0, 1) := by decide +kernel
theorem dJ6_numberOfLeadingZeros_0f7a4_48 : decode cJ6_numberOfLeadingZeros_0f7a4 48 = .ok (.iload_n 0, 1) := by decide +kernel
theorem dJ6_numberOfLeadingZeros_0f7a4_49 : decode cJ6_numberOfLeadingZeros_0f7a4 49 = .ok (.bipush 16, 2) := by decide +kernel
theorem dJ6_numberOfLeadingZeros_0f7a4_51 : decode cJ6_numberOfLeadingZeros_0f7a4 51 = .ok (.if_icmp .lt 10, 3) := by decide +kernel
theorem dJ6_numberOfLeadingZeros_0f7a4_54 : decode cJ6_numberOfLeadingZeros_0f7a4 54 = .ok (.iinc 1 (-4), 3) := by decide +kernel
theorem dJ6_numberOfLeadingZeros_0f7a4_57 : decode cJ6_numberOfLeadingZeros_0f7a4 57 = .ok (.iload_n 0, 1) := by decide +kernel
theorem dJ6_numberOfLeadingZeros_0f7a4_58 : decode cJ6_numberOfLeadingZeros_0f7a4 58 = .ok (.iconst 4, 1) := by decide +kernel
theorem dJ6_numberOfLeadingZeros_0f7a4_59 : decode cJ6_numberOfLeadingZeros_0f7a4 59 = .ok (.iushr, 1) := by decide +kernel
theorem dJ6_numberOfLeadingZeros_0f7a4_60 : decode cJ6_numberOfLeadingZeros_0f7a4 60 = .ok (.istore_n 0, 1) := by decide +kernel
theorem dJ6_numberOfLeadingZeros_0f7a4_61 : decode cJ6_numberOfLeadingZeros_0f7a4 61 = .ok (.iload_n 0, 1) := by decide +kernel
theorem dJ6_numberOfLeadingZeros_0f7a4_62 : decode cJ6_numberOfLeadingZeros_0f7a4 62 = .ok (.iconst 4, 1) := by decide +kernel
theorem dJ6_numberOfLeadingZeros_0f7a4_63 : decode cJ6_numberOfLeadingZeros_0f7a4 63 = .ok (.if_icmp .lt 10, 3) := by decide +kernel
theorem dJ6_numberOfLeadingZeros_0f7a4_66 : decode cJ6_numberOfLeadingZeros_0f7a4 66 = .ok (.iinc 1 (-2), 3) := by decide +kernel
theorem dJ6_numberOfLeadingZeros_0f7a4_69 : decode cJ6_numberOfLeadingZeros_0f7a4 69 = .ok (.iload_n 0, 1) := by decide +kernel
theorem dJ6_numberOfLeadingZeros_0f7a4_70 : decode cJ6_numberOfLeadingZeros_0f7a4 70 = .ok (.iconst 2, 1) := by decide +kernel
theorem dJ6_numberOfLeadingZeros_0f7a4_71 : decode cJ6_numberOfLeadingZeros_0f7a4 71 = .ok (.iushr, 1) := by decide +kernel
theorem dJ6_numberOfLeadingZeros_0f7a4_72 : decode cJ6_numberOfLeadingZeros_0f7a4 72 = .ok (.istore_n 0, 1) := by decide +kernel
theorem dJ6_numberOfLeadingZeros_0f7a4_73 : decode cJ6_numberOfLeadingZeros_0f7a4 73 = .ok (.iload_n 1, 1) := by decide +kernel
theorem dJ6_numberOfLeadingZeros_0f7a4_74 : decode cJ6_numberOfLeadingZeros_0f7a4 74 = .ok (.iload_n 0, 1) := by decide +kernel
theorem dJ6_numberOfLeadingZeros_0f7a4_75 : decode cJ6_numberOfLeadingZeros_0f7a4 75 = .ok (.iconst 1, 1) := by decide +kernel
theorem dJ6_numberOfLeadingZeros_0f7a4_76 : decode cJ6_numberOfLeadingZeros_0f7a4 76 = .ok (.iushr, 1) := by decide +kernel
theorem dJ6_numberOfLeadingZeros_0f7a4_77 : decode cJ6_numberOfLeadingZeros_0f7a4 77 = .ok (.isub, 1) := by decide +kernel
theorem dJ6_numberOfLeadingZeros_0f7a4_78 : decode cJ6_numberOfLeadingZeros_0f7a4 78 = .ok (.ireturn, 1) := by decide +kernel
theorem dJ6_numberOfTrailingZeros_0f7a4_0 : decode cJ6_numberOfTrailingZeros_0f7a4 0 = .ok (.iload_n 0, 1) := by decide +kernel
theorem dJ6_numberOfTrailingZeros_0f7a4_1 : decode cJ6_numberOfTrailingZeros_0f7a4 1 = .ok (.iconst (-1), 1) := by decide +kernel
theorem dJ6_numberOfTrailingZeros_0f7a4_2 : decode cJ6_numberOfTrailingZeros_0f7a4 2 = .ok (.ixor, 1) := by decide +kernel
theorem dJ6_numberOfTrailingZeros_0f7a4_3 : decode cJ6_numberOfTrailingZeros_0f7a4 3 = .ok (.iload_n 0, 1) := by decide +kernel
theorem dJ6_numberOfTrailingZeros_0f7a4_4 : decode cJ6_numberOfTrailingZeros_0f7a4 4 = .ok (.iconst 1, 1) := by decide +kernel
theorem dJ6_numberOfTrailingZeros_0f7a4_5 : decode cJ6_numberOfTrailingZeros_0f7a4 5 = .ok (.isub, 1) := by decide +kernel
theorem dJ6_numberOfTrailingZeros_0f7a4_6 : decode cJ6_numberOfTrailingZeros_0f7a4 6 = .ok (.iand, 1) := by decide +kernel
theorem dJ6_numberOfTrailingZeros_0f7a4_7 : decode cJ6_numberOfTrailingZeros_0f7a4 7 = .ok (.istore_n 0, 1) := by decide +kernel
theorem dJ6_numberOfTrailingZeros_0f7a4_8 : decode cJ6_numberOfTrailingZeros_0f7a4 8 = .ok (.iload_n 0, 1) := by decide +kernel
theorem dJ6_numberOfTrailingZeros_0f7a4_9 : decode cJ6_numberOfTrailingZeros_0f7a4 9 = .ok (.ifCond .gt 8, 3) := by decide +kernel
theorem dJ6_numberOfTrailingZeros_0f7a4_12 : decode cJ6_numberOfTrailingZeros_0f7a4 12 = .ok (.iload_n 0, 1) := by decide +kernel
theorem dJ6_numberOfTrailingZeros_0f7a4_13 : decode cJ6_numberOfTrailingZeros_0f7a4 13 = .ok (.bipush 32, 2) := by decide +kernel
theorem dJ6_numberOfTrailingZeros_0f7a4_15 : decode cJ6_numberOfTrailingZeros_0f7a4 15 = .ok (.iand, 1) := by decide +kernel
theorem dJ6_numberOfTrailingZeros_0f7a4_16 : decode cJ6_numberOfTrailingZeros_0f7a4 16 = .ok (.ireturn, 1) := by decide +kernel
theorem dJ6_numberOfTrailingZeros_0f7a4_17 : decode cJ6_numberOfTrailingZeros_0f7a4 17 = .ok (.iconst 1, 1) := by decide +kernel
theorem dJ6_numberOfTrailingZeros_0f7a4_18 : decode cJ6_numberOfTrailingZeros_0f7a4 18 = .ok (.istore_n 1, 1) := by decide +kernel
theorem dJ6_numberOfTrailingZeros_0f7a4_19 : decode cJ6_numberOfTrailingZeros_0f7a4 19 = .ok (.iload_n 0, 1) := by decide +kernel
theorem dJ6_numberOfTrailingZeros_0f7a4_20 : decode cJ6_numberOfTrailingZeros_0f7a4 20 = .ok (.ldc_w 264, 3) := by decide +kernel
theorem dJ6_numberOfTrailingZeros_0f7a4_23 : decode cJ6_numberOfTrailingZeros_0f7a4 23 = .ok (.if_icmp .le 11, 3) := by decide +kernel
theorem dJ6_numberOfTrailingZeros_0f7a4_26 : decode cJ6_numberOfTrailingZeros_0f7a4 26 = .ok (.iinc 1 16, 3) := by decide +kernel
theorem dJ6_numberOfTrailingZeros_0f7a4_29 : decode cJ6_numberOfTrailingZeros_0f7a4 29 = .ok (.iload_n 0, 1) := by decide +kernel
theorem dJ6_numberOfTrailingZeros_0f7a4_30 : decode cJ6_numberOfTrailingZeros_0f7a4 30 = .ok (.bipush 16, 2) := by decide +kernel
theorem dJ6_numberOfTrailingZeros_0f7a4_32 : decode cJ6_numberOfTrailingZeros_0f7a4 32 = .ok (.iushr, 1) := by decide +kernel
theorem dJ6_numberOfTrailingZeros_0f7a4_33 : decode cJ6_numberOfTrailingZeros_0f7a4 33 = .ok (.istore_n 0, 1) := by decide +kernel
theorem dJ6_numberOfTrailingZeros_0f7a4_34 : decode cJ6_numberOfTrailingZeros_0f7a4 34 = .ok (.iload_n 0, 1) := by decide +kernel
theorem dJ6_numberOfTrailingZeros_0f7a4_35 : decode cJ6_numberOfTrailingZeros_0f7a4 35 = .ok (.sipush 256, 3) := by decide +kernel
theorem dJ6_numberOfTrailingZeros_0f7a4_38 : decode cJ6_numberOfTrailingZeros_0f7a4 38 = .ok (.if_icmp .le 11, 3) := by decide +kernel
theorem dJ6_numberOfTrailingZeros_0f7a4_41 : decode cJ6_numberOfTrailingZeros_0f7a4 41 = .ok (.iinc 1 8, 3) := by decide +kernel
theorem dJ6_numberOfTrailingZeros_0f7a4_44 : decode cJ6_numberOfTrailingZeros_0f7a4 44 = .ok (.iload_n 0, 1) := by decide +kernel
theorem dJ6_numberOfTrailingZeros_0f7a4_45 : decode cJ6_numberOfTrailingZeros_0f7a4 45 = .ok (.bipush 8, 2) := by decide +kernel
theorem dJ6_numberOfTrailingZeros_0f7a4_47 : decode cJ6_numberOfTrailingZeros_0f7a4 47 = .ok (.iushr, 1) := by decide +kernel
theorem dJ6_numberOfTrailingZeros_0f7a4_48 : decode cJ6_numberOfTrailingZeros_0f7a4 48 = .ok (.istore_n 0, 1) := by decide +kernel
theorem dJ6_numberOfTrailingZeros_0f7a4_49 : decode cJ6_numberOfTrailingZeros_0f7a4 49 = .ok (.iload_n 0, 1) := by decide +kernel
theorem dJ6_numberOfTrailingZeros_0f7a4_50 : decode cJ6_numberOfTrailingZeros_0f7a4 50 = .ok (.bipush 16, 2) := by decide +kernel
theorem dJ6_numberOfTrailingZeros_0f7a4_52 : decode cJ6_numberOfTrailingZeros_0f7a4 52 = .ok (.if_icmp .le 10, 3) := by decide +kernel
theorem dJ6_numberOfTrailingZeros_0f7a4_55 : decode cJ6_numberOfTrailingZeros_0f7a4 55 = .ok (.iinc 1 4, 3) := by decide +kernel
theorem dJ6_numberOfTrailingZeros_0f7a4_58 : decode cJ6_numberOfTrailingZeros_0f7a4 58 = .ok (.iload_n 0, 1) := by decide +kernel
theorem dJ6_numberOfTrailingZeros_0f7a4_59 : decode cJ6_numberOfTrailingZeros_0f7a4 59 = .ok (.iconst 4, 1) := by decide +kernel
theorem dJ6_numberOfTrailingZeros_0f7a4_60 : decode cJ6_numberOfTrailingZeros_0f7a4 60 = .ok (.iushr, 1) := by decide +kernel
theorem dJ6_numberOfTrailingZeros_0f7a4_61 : decode cJ6_numberOfTrailingZeros_0f7a4 61 = .ok (.istore_n 0, 1) := by decide +kernel
theorem dJ6_numberOfTrailingZeros_0f7a4_62 : decode cJ6_numberOfTrailingZeros_0f7a4 62 = .ok (.iload_n 0, 1) := by decide +kernel
theorem dJ6_numberOfTrailingZeros_0f7a4_63 : decode cJ6_numberOfTrailingZeros_0f7a4 63 = .ok (.iconst 4, 1) := by decide +kernel
theorem dJ6_numberOfTrailingZeros_0f7a4_64 : decode cJ6_numberOfTrailingZeros_0f7a4 64 = .ok (.if_icmp .le 10, 3) := by decide +kernel
theorem dJ6_numberOfTrailingZeros_0f7a4_67 : decode cJ6_numberOfTrailingZeros_0f7a4 67 = .ok (.iinc 1 2, 3) := by decide +kernel
theorem dJ6_numberOfTrailingZeros_0f7a4_70 : decode cJ6_numberOfTrailingZeros_0f7a4 70 = .ok (.iload_n 0, 1) := by decide +kernel
theorem dJ6_numberOfTrailingZeros_0f7a4_71 : decode cJ6_numberOfTrailingZeros_0f7a4 71 = .ok (.iconst 2, 1) := by decide +kernel
theorem dJ6_numberOfTrailingZeros_0f7a4_72 : decode cJ6_numberOfTrailingZeros_0f7a4 72 = .ok (.iushr, 1) := by decide +kernel
theorem dJ6_numberOfTrailingZeros_0f7a4_73 : decode cJ6_numberOfTrailingZeros_0f7a4 73 = .ok (.istore_n 0, 1) := by decide +kernel
theorem dJ6_numberOfTrailingZeros_0f7a4_74 : decode cJ6_numberOfTrailingZeros_0f7a4 74 = .ok (.iload_n 1, 1) := by decide +kernel
theorem dJ6_numberOfTrailingZeros_0f7a4_75 : decode cJ6_numberOfTrailingZeros_0f7a4 75 = .ok (.iload_n 0, 1) := by decide +kernel
theorem dJ6_numberOfTrailingZeros_0f7a4_76 : decode cJ6_numberOfTrailingZeros_0f7a4 76 = .ok (.iconst 1, 1) := by decide +kernel
theorem dJ6_numberOfTrailingZeros_0f7a4_77 : decode cJ6_numberOfTrailingZeros_0f7a4 77 = .ok (.iushr, 1) := by decide +kernel
theorem dJ6_numberOfTrailingZeros_0f7a4_78 : decode cJ6_numberOfTrailingZeros_0f7a4 78 = .ok (.iadd, 1) := by decide +kernel
theorem dJ6_numberOfTrailingZeros_0f7a4_79 : decode cJ6_numberOfTrailingZeros_0f7a4 79 = .ok (.ireturn, 1) := by decide +kernel
theorem dJ6_bitCount_0f7a4_0 : decode cJ6_bitCount_0f7a4 0 = .ok (.iload_n 0, 1) := by decide +kernel
theorem dJ6_bitCount_0f7a4_1 : decode cJ6_bitCount_0f7a4 1 = .ok (.iload_n 0, 1) := by decide +kernel
theorem dJ6_bitCount_0f7a4_2 : decode cJ6_bitCount_0f7a4 2 = .ok (.iconst 1, 1) := by decide +kernel
theorem dJ6_bitCount_0f7a4_3 : decode cJ6_bitCount_0f7a4 3 = .ok (.iushr, 1) := by decide +kernel
theorem dJ6_bitCount_0f7a4_4 : decode cJ6_bitCount_0f7a4 4 = .ok (.ldc_w 265, 3) := by decide +kernel
theorem dJ6_bitCount_0f7a4_7 : decode cJ6_bitCount_0f7a4 7 = .ok (.iand, 1) := by decide +kernel
theorem dJ6_bitCount_0f7a4_8 : decode cJ6_bitCount_0f7a4 8 = .ok (.isub, 1) := by decide +kernel
theorem dJ6_bitCount_0f7a4_9 : decode cJ6_bitCount_0f7a4 9 = .ok (.istore_n 0, 1) := by decide +kernel
theorem dJ6_bitCount_0f7a4_10 : decode cJ6_bitCount_0f7a4 10 = .ok (.iload_n 0, 1) := by decide +kernel
theorem dJ6_bitCount_0f7a4_11 : decode cJ6_bitCount_0f7a4 11 = .ok (.ldc_w 266, 3) := by decide +kernel
theorem dJ6_bitCount_0f7a4_14 : decode cJ6_bitCount_0f7a4 14 = .ok (.iand, 1) := by decide +kernel
theorem dJ6_bitCount_0f7a4_15 : decode cJ6_bitCount_0f7a4 15 = .ok (.iload_n 0, 1) := by decide +kernel
theorem dJ6_bitCount_0f7a4_16 : decode cJ6_bitCount_0f7a4 16 = .ok (.iconst 2, 1) := by decide +kernel
theorem dJ6_bitCount_0f7a4_17 : decode cJ6_bitCount_0f7a4 17 = .ok (.iushr, 1) := by decide +kernel
theorem dJ6_bitCount_0f7a4_18 : decode cJ6_bitCount_0f7a4 18 = .ok (.ldc_w 266, 3) := by decide +kernel
theorem dJ6_bitCount_0f7a4_21 : decode cJ6_bitCount_0f7a4 21 = .ok (.iand, 1) := by decide +kernel
theorem dJ6_bitCount_0f7a4_22 : decode cJ6_bitCount_0f7a4 22 = .ok (.iadd, 1) := by decide +kernel
theorem dJ6_bitCount_0f7a4_23 : decode cJ6_bitCount_0f7a4 23 = .ok (.istore_n 0, 1) := by decide +kernel
theorem dJ6_bitCount_0f7a4_24 : decode cJ6_bitCount_0f7a4 24 = .ok (.iload_n 0, 1) := by decide +kernel
theorem dJ6_bitCount_0f7a4_25 : decode cJ6_bitCount_0f7a4 25 = .ok (.iload_n 0, 1) := by decide +kernel
theorem dJ6_bitCount_0f7a4_26 : decode cJ6_bitCount_0f7a4 26 = .ok (.iconst 4, 1) := by decide +kernel
theorem dJ6_bitCount_0f7a4_27 : decode cJ6_bitCount_0f7a4 27 = .ok (.iushr, 1) := by decide +kernel
theorem dJ6_bitCount_0f7a4_28 : decode cJ6_bitCount_0f7a4 28 = .ok (.iadd, 1) := by decide +kernel
theorem dJ6_bitCount_0f7a4_29 : decode cJ6_bitCount_0f7a4 29 = .ok (.ldc_w 267, 3) := by decide +kernel
theorem dJ6_bitCount_0f7a4_32 : decode cJ6_bitCount_0f7a4 32 = .ok (.iand, 1) := by decide +kernel
theorem dJ6_bitCount_0f7a4_33 : decode cJ6_bitCount_0f7a4 33 = .ok (.istore_n 0, 1) := by decide +kernel
theorem dJ6_bitCount_0f7a4_34 : decode cJ6_bitCount_0f7a4 34 = .ok (.iload_n 0, 1) := by decide +kernel
theorem dJ6_bitCount_0f7a4_35 : decode cJ6_bitCount_0f7a4 35 = .ok (.iload_n 0, 1) := by decide +kernel
theorem dJ6_bitCount_0f7a4_36 : decode cJ6_bitCount_0f7a4 36 = .ok (.bipush 8, 2) := by decide +kernel
theorem dJ6_bitCount_0f7a4_38 : decode cJ6_bitCount_0f7a4 38 = .ok (.iushr, 1) := by decide +kernel
theorem dJ6_bitCount_0f7a4_39 : decode cJ6_bitCount_0f7a4 39 = .ok (.iadd, 1) := by decide +kernel
theorem dJ6_bitCount_0f7a4_40 : decode cJ6_bitCount_0f7a4 40 = .ok (.istore_n 0, 1) := by decide +kernel
theorem dJ6_bitCount_0f7a4_41 : decode cJ6_bitCount_0f7a4 41 = .ok (.iload_n 0, 1) := by decide +kernel
theorem dJ6_bitCount_0f7a4_42 : decode cJ6_bitCount_0f7a4 42 = .ok (.iload_n 0, 1) := by decide +kernel
theorem dJ6_bitCount_0f7a4_43 : decode cJ6_bitCount_0f7a4 43 = .ok (.bipush 16, 2) := by decide +kernel
theorem dJ6_bitCount_0f7a4_45 : decode cJ6_bitCount_0f7a4 45 = .ok (.iushr, 1) := by decide +kernel
theorem dJ6_bitCount_0f7a4_46 : decode cJ6_bitCount_0f7a4 46 = .ok (.iadd, 1) := by decide +kernel
theorem dJ6_bitCount_0f7a4_47 : decode cJ6_bitCount_0f7a4 47 = .ok (.istore_n 0, 1) := by decide +kernel
theorem dJ6_bitCount_0f7a4_48 : decode cJ6_bitCount_0f7a4 48 = .ok (.iload_n 0, 1) := by decide +kernel
theorem dJ6_bitCount_0f7a4_49 : decode cJ6_bitCount_0f7a4 49 = .ok (.bipush 63, 2) := by decide +kernel
theorem dJ6_bitCount_0f7a4_51 : decode cJ6_bitCount_0f7a4 51 = .ok (.iand, 1) := by decide +kernel
theorem dJ6_bitCount_0f7a4_52 : decode cJ6_bitCount_0f7a4 52 = .ok (.ireturn, 1) := by decide +kernel
theorem dJ9_max_7cf53_0 : decode cJ9_max_7cf53 0 = .ok (.iload_n 0, 1) := by decide +kernel
theorem dJ9_max_7cf53_1 : decode cJ9_max_7cf53 1 = .ok (.iload_n 1, 1) := by decide +kernel
theorem dJ9_max_7cf53_2 : decode cJ9_max_7cf53 2 = .ok (.if_icmp .lt 7, 3) := by decide +kernel
theorem dJ9_max_7cf53_5 : decode cJ9_max_7cf53 5 = .ok (.iload_n 0, 1) := by decide +kernel
theorem dJ9_max_7cf53_6 : decode cJ9_max_7cf53 6 = .ok (.goto 4, 3) := by decide +kernel
theorem dJ9_max_7cf53_9 : decode cJ9_max_7cf53 9 = .ok (.iload_n 1, 1) := by decide +kernel
theorem dJ9_max_7cf53_10 : decode cJ9_max_7cf53 10 = .ok (.ireturn, 1) := by decide +kernel
theorem dJ9_min_7cf53_0 : decode cJ9_min_7cf53 0 = .ok (.iload_n 0, 1) := by decide +kernel
theorem dJ9_min_7cf53_1 : decode cJ9_min_7cf53 1 = .ok (.iload_n 1, 1) := by decide +kernel
theorem dJ9_min_7cf53_2 : decode cJ9_min_7cf53 2 = .ok (.if_icmp .gt 7, 3) := by decide +kernel
theorem dJ9_min_7cf53_5 : decode cJ9_min_7cf53 5 = .ok (.iload_n 0, 1) := by decide +kernel
theorem dJ9_min_7cf53_6 : decode cJ9_min_7cf53 6 = .ok (.goto 4, 3) := by decide +kernel
theorem dJ9_min_7cf53_9 : decode cJ9_min_7cf53 9 = .ok (.iload_n 1, 1) := by decide +kernel
theorem dJ9_min_7cf53_10 : decode cJ9_min_7cf53 10 = .ok (.ireturn, 1) := by decide +kernel
theorem dJ0_length_8abf5_0 : decode cJ0_length_8abf5 0 = .ok (.aload_n 0, 1) := by decide +kernel
theorem dJ0_length_8abf5_1 : decode cJ0_length_8abf5 1 = .ok (.getfield 9, 3) := by decide +kernel
theorem dJ0_length_8abf5_4 : decode cJ0_length_8abf5 4 = .ok (.arraylength, 1) := by decide +kernel
theorem dJ0_length_8abf5_5 : decode cJ0_length_8abf5 5 = .ok (.aload_n 0, 1) := by decide +kernel
theorem dJ0_length_8abf5_6 : decode cJ0_length_8abf5 6 = .ok (.invokevirtual 335, 3) := by decide +kernel
theorem dJ0_length_8abf5_9 : decode cJ0_length_8abf5 9 = .ok (.ishr, 1) := by decide +kernel
theorem dJ0_length_8abf5_10 : decode cJ0_length_8abf5 10 = .ok (.ireturn, 1) := by decide +kernel
theorem dJ0_indexOf_0f7a4_0 : decode cJ0_indexOf_0f7a4 0 = .ok (.aload_n 0, 1) := by decide +kernel
theorem dJ0_indexOf_0f7a4_1 : decode cJ0_indexOf_0f7a4 1 = .ok (.iload_n 1, 1) := by decide +kernel
theorem dJ0_indexOf_0f7a4_2 : decode cJ0_indexOf_0f7a4 2 = .ok (.iconst 0, 1) := by decide +kernel
theorem dJ0_indexOf_0f7a4_3 : decode cJ0_indexOf_0f7a4 3 = .ok (.invokevirtual 633, 3) := by decide +kernel
theorem dJ0_indexOf_0f7a4_6 : decode cJ0_indexOf_0f7a4 6 = .ok (.ireturn, 1) := by decide +kernel
theorem dJ0_indexOf_7cf53_0 : decode cJ0_indexOf_7cf53 0 = .ok (.aload_n 0, 1) := by decide +kernel
theorem dJ0_indexOf_7cf53_1 : decode cJ0_indexOf_7cf53 1 = .ok (.invokevirtual 492, 3) := by decide +kernel
theorem dJ0_indexOf_7cf53_4 : decode cJ0_indexOf_7cf53 4 = .ok (.ifCond .eq 19, 3) := by decide +kernel
theorem dJ0_indexOf_7cf53_7 : decode cJ0_indexOf_7cf53 7 = .ok (.aload_n 0, 1) := by decide +kernel
theorem dJ0_indexOf_7cf53_8 : decode cJ0_indexOf_7cf53 8 = .ok (.getfield 9, 3) := by decide +kernel
theorem dJ0_indexOf_7cf53_11 : decode cJ0_indexOf_7cf53 11 = .ok (.iload_n 1, 1) := by decide +kernel
theorem dJ0_indexOf_7cf53_12 : decode cJ0_indexOf_7cf53 12 = .ok (.iload_n 2, 1) := by decide +kernel
theorem dJ0_indexOf_7cf53_13 : decode cJ0_indexOf_7cf53 13 = .ok (.aload_n 0, 1) := by decide +kernel
theorem dJ0_indexOf_7cf53_14 : decode cJ0_indexOf_7cf53 14 = .ok (.invokevirtual 505, 3) := by decide +kernel
theorem dJ0_indexOf_7cf53_17 : decode cJ0_indexOf_7cf53 17 = .ok (.invokestatic 637, 3) := by decide +kernel
theorem dJ0_indexOf_7cf53_20 : decode cJ0_indexOf_7cf53 20 = .ok (.goto 16, 3) := by decide +kernel
theorem dJ0_indexOf_7cf53_23 : decode cJ0_indexOf_7cf53 23 = .ok (.aload_n 0, 1) := by decide +kernel
theorem dJ0_indexOf_7cf53_24 : decode cJ0_indexOf_7cf53 24 = .ok (.getfield 9, 3) := by decide +kernel
theorem dJ0_indexOf_7cf53_27 : decode cJ0_indexOf_7cf53 27 = .ok (.iload_n 1, 1) := by decide +kernel
theorem dJ0_indexOf_7cf53_28 : decode cJ0_indexOf_7cf53 28 = .ok (.iload_n 2, 1) := by decide +kernel
theorem dJ0_indexOf_7cf53_29 : decode cJ0_indexOf_7cf53 29 = .ok (.aload_n 0, 1) := by decide +kernel
theorem dJ0_indexOf_7cf53_30 : decode cJ0_indexOf_7cf53 30 = .ok (.invokevirtual 505, 3) := by decide +kernel
theorem dJ0_indexOf_7cf53_33 : decode cJ0_indexOf_7cf53 33 = .ok (.invokestatic 640, 3) := by decide +kernel
theorem dJ0_indexOf_7cf53_36 : decode cJ0_indexOf_7cf53 36 = .ok (.ireturn, 1) := by decide +kernel
theorem dJ0_coder_7d493_0 : decode cJ0_coder_7d493 0 = .ok (.getstatic 38, 3) := by decide +kernel
theorem dJ0_coder_7d493_3 : decode cJ0_coder_7d493 3 = .ok (.ifCond .eq 10, 3) := by decide +kernel
theorem dJ0_coder_7d493_6 : decode cJ0_coder_7d493 6 = .ok (.aload_n 0, 1) := by decide +kernel
theorem dJ0_coder_7d493_7 : decode cJ0_coder_7d493 7 = .ok (.getfield 15, 3) := by decide +kernel
theorem dJ0_coder_7d493_10 : decode cJ0_coder_7d493 10 = .ok (.goto 4, 3) := by decide +kernel
theorem dJ0_coder_7d493_13 : decode cJ0_coder_7d493 13 = .ok (.iconst 1, 1) := by decide +kernel
theorem dJ0_coder_7d493_14 : decode cJ0_coder_7d493 14 = .ok (.ireturn, 1) := by decide +kernel
theorem dJ0_isLatin1_aae02_0 : decode cJ0_isLatin1_aae02 0 = .ok (.getstatic 38, 3) := by decide +kernel
theorem dJ0_isLatin1_aae02_3 : decode cJ0_isLatin1_aae02 3 = .ok (.ifCond .eq 14, 3) := by decide +kernel
theorem dJ0_isLatin1_aae02_6 : decode cJ0_isLatin1_aae02 6 = .ok (.aload_n 0, 1) := by decide +kernel
theorem dJ0_isLatin1_aae02_7 : decode cJ0_isLatin1_aae02 7 = .ok (.getfield 15, 3) := by decide +kernel
theorem dJ0_isLatin1_aae02_10 : decode cJ0_isLatin1_aae02 10 = .ok (.ifCond .ne 7, 3) := by decide +kernel
theorem dJ0_isLatin1_aae02_13 : decode cJ0_isLatin1_aae02 13 = .ok (.iconst 1, 1) := by decide +kernel
theorem dJ0_isLatin1_aae02_14 : decode cJ0_isLatin1_aae02 14 = .ok (.goto 4, 3) := by decide +kernel
theorem dJ0_isLatin1_aae02_17 : decode cJ0_isLatin1_aae02 17 = .ok (.iconst 0, 1) := by decide +kernel
theorem dJ0_isLatin1_aae02_18 : decode cJ0_isLatin1_aae02 18 = .ok (.ireturn, 1) := by decide +kernel
theorem dJ0_checkBoundsBeginEnd_23922_0 : decode cJ0_checkBoundsBeginEnd_23922 0 = .ok (.iload_n 0, 1) := by decide +kernel
theorem dJ0_checkBoundsBeginEnd_23922_1 : decode cJ0_checkBoundsBeginEnd_23922 1 = .ok (.iload_n 1, 1) := by decide +kernel
theorem dJ0_checkBoundsBeginEnd_23922_2 : decode cJ0_checkBoundsBeginEnd_23922 2 = .ok (.iload_n 2, 1) := by decide +kernel
theorem dJ0_checkBoundsBeginEnd_23922_3 : decode cJ0_checkBoundsBeginEnd_23922 3 = .ok (.getstatic 1053, 3) := by decide +kernel
theorem dJ0_checkBoundsBeginEnd_23922_6 : decode cJ0_checkBoundsBeginEnd_23922 6 = .ok (.invokestatic 1062, 3) := by decide +kernel
theorem dJ0_checkBoundsBeginEnd_23922_9 : decode cJ0_checkBoundsBeginEnd_23922 9 = .ok (.pop, 1) := by decide +kernel
theorem dJ0_checkBoundsBeginEnd_23922_10 : decode cJ0_checkBoundsBeginEnd_23922 10 = .ok (.return_, 1) := by decide +kernel
theorem dJ1_canEncode_9a6ad_0 : decode cJ1_canEncode_9a6ad 0 = .ok (.iload_n 0, 1) := by decide +kernel
theorem dJ1_canEncode_9a6ad_1 : decode cJ1_canEncode_9a6ad 1 = .ok (.ifCond .lt 14, 3) := by decide +kernel
theorem dJ1_canEncode_9a6ad_4 : decode cJ1_canEncode_9a6ad 4 = .ok (.iload_n 0, 1) := by decide +kernel
theorem dJ1_canEncode_9a6ad_5 : decode cJ1_canEncode_9a6ad 5 = .ok (.sipush 255, 3) := by decide +kernel
theorem dJ1_canEncode_9a6ad_8 : decode cJ1_canEncode_9a6ad 8 = .ok (.if_icmp .gt 7, 3) := by decide +kernel
theorem dJ1_canEncode_9a6ad_11 : decode cJ1_canEncode_9a6ad 11 = .ok (.iconst 1, 1) := by decide +kernel
theorem dJ1_canEncode_9a6ad_12 : decode cJ1_canEncode_9a6ad 12 = .ok (.goto 4, 3) := by decide +kernel
theorem dJ1_canEncode_9a6ad_15 : decode cJ1_canEncode_9a6ad 15 = .ok (.iconst 0, 1) := by decide +kernel
theorem dJ1_canEncode_9a6ad_16 : decode cJ1_canEncode_9a6ad 16 = .ok (.ireturn, 1) := by decide +kernel
theorem dJ1_indexOf_4cfef_0 : decode cJ1_indexOf_4cfef 0 = .ok (.iload_n 1, 1) := by decide +kernel
theorem dJ1_indexOf_4cfef_1 : decode cJ1_indexOf_4cfef 1 = .ok (.invokestatic 88, 3) := by decide +kernel
theorem dJ1_indexOf_4cfef_4 : decode cJ1_indexOf_4cfef 4 = .ok (.ifCond .ne 5, 3) := by decide +kernel
theorem dJ1_indexOf_4cfef_7 : decode cJ1_indexOf_4cfef 7 = .ok (.iconst (-1), 1) := by decide +kernel
theorem dJ1_indexOf_4cfef_8 : decode cJ1_indexOf_4cfef 8 = .ok (.ireturn, 1) := by decide +kernel
theorem dJ1_indexOf_4cfef_9 : decode cJ1_indexOf_4cfef 9 = .ok (.iload_n 2, 1) := by decide +kernel
theorem dJ1_indexOf_4cfef_10 : decode cJ1_indexOf_4cfef 10 = .ok (.iconst 0, 1) := by decide +kernel
theorem dJ1_indexOf_4cfef_11 : decode cJ1_indexOf_4cfef 11 = .ok (.invokestatic 92, 3) := by decide +kernel
theorem dJ1_indexOf_4cfef_14 : decode cJ1_indexOf_4cfef 14 = .ok (.istore_n 2, 1) := by decide +kernel
theorem dJ1_indexOf_4cfef_15 : decode cJ1_indexOf_4cfef 15 = .ok (.iload_n 3, 1) := by decide +kernel
theorem dJ1_indexOf_4cfef_16 : decode cJ1_indexOf_4cfef 16 = .ok (.aload_n 0, 1) := by decide +kernel
theorem dJ1_indexOf_4cfef_17 : decode cJ1_indexOf_4cfef 17 = .ok (.arraylength, 1) := by decide +kernel
theorem dJ1_indexOf_4cfef_18 : decode cJ1_indexOf_4cfef 18 = .ok (.invokestatic 38, 3) := by decide +kernel
theorem dJ1_indexOf_4cfef_21 : decode cJ1_indexOf_4cfef 21 = .ok (.istore_n 3, 1) := by decide +kernel
theorem dJ1_indexOf_4cfef_22 : decode cJ1_indexOf_4cfef 22 = .ok (.iload_n 2, 1) := by decide +kernel
theorem dJ1_indexOf_4cfef_23 : decode cJ1_indexOf_4cfef 23 = .ok (.iload_n 3, 1) := by decide +kernel
theorem dJ1_indexOf_4cfef_24 : decode cJ1_indexOf_4cfef 24 = .ok (.if_icmp .lt 5, 3) := by decide +kernel
theorem dJ1_indexOf_4cfef_27 : decode cJ1_indexOf_4cfef 27 = .ok (.iconst (-1), 1) := by decide +kernel
theorem dJ1_indexOf_4cfef_28 : decode cJ1_indexOf_4cfef 28 = .ok (.ireturn, 1) := by decide +kernel
theorem dJ1_indexOf_4cfef_29 : decode cJ1_indexOf_4cfef 29 = .ok (.aload_n 0, 1) := by decide +kernel
theorem dJ1_indexOf_4cfef_30 : decode cJ1_indexOf_4cfef 30 = .ok (.iload_n 1, 1) := by decide +kernel
theorem dJ1_indexOf_4cfef_31 : decode cJ1_indexOf_4cfef 31 = .ok (.iload_n 2, 1) := by decide +kernel
theorem dJ1_indexOf_4cfef_32 : decode cJ1_indexOf_4cfef 32 = .ok (.iload_n 3, 1) := by decide +kernel
theorem dJ1_indexOf_4cfef_33 : decode cJ1_indexOf_4cfef 33 = .ok (.invokestatic 95, 3) := by decide +kernel
theorem dJ1_indexOf_4cfef_36 : decode cJ1_indexOf_4cfef 36 = .ok (.ireturn, 1) := by decide +kernel
theorem dJ1_indexOfChar_4cfef_0 : decode cJ1_indexOfChar_4cfef 0 = .ok (.iload_n 1, 1) := by decide +kernel
theorem dJ1_indexOfChar_4cfef_1 : decode cJ1_indexOfChar_4cfef 1 = .ok (.i2b, 1) := by decide +kernel
theorem dJ1_indexOfChar_4cfef_2 : decode cJ1_indexOfChar_4cfef 2 = .ok (.istore 4, 2) := by decide +kernel
theorem dJ1_indexOfChar_4cfef_4 : decode cJ1_indexOfChar_4cfef 4 = .ok (.iload_n 2, 1) := by decide +kernel
theorem dJ1_indexOfChar_4cfef_5 : decode cJ1_indexOfChar_4cfef 5 = .ok (.istore 5, 2) := by decide +kernel
theorem dJ1_indexOfChar_4cfef_7 : decode cJ1_indexOfChar_4cfef 7 = .ok (.iload 5, 2) := by decide +kernel
theorem dJ1_indexOfChar_4cfef_9 : decode cJ1_indexOfChar_4cfef 9 = .ok (.iload_n 3, 1) := by decide +kernel
theorem dJ1_indexOfChar_4cfef_10 : decode cJ1_indexOfChar_4cfef 10 = .ok (.if_icmp .ge 21, 3) := by decide +kernel
theorem dJ1_indexOfChar_4cfef_13 : decode cJ1_indexOfChar_4cfef 13 = .ok (.aload_n 0, 1) := by decide +kernel
theorem dJ1_indexOfChar_4cfef_14 : decode cJ1_indexOfChar_4cfef 14 = .ok (.iload 5, 2) := by decide +kernel
theorem dJ1_indexOfChar_4cfef_16 : decode cJ1_indexOfChar_4cfef 16 = .ok (.baload, 1) := by decide +kernel
theorem dJ1_indexOfChar_4cfef_17 : decode cJ1_indexOfChar_4cfef 17 = .ok (.iload 4, 2) := by decide +kernel
theorem dJ1_indexOfChar_4cfef_19 : decode cJ1_indexOfChar_4cfef 19 = .ok (.if_icmp .ne 6, 3) := by decide +kernel
theorem dJ1_indexOfChar_4cfef_22 : decode cJ1_indexOfChar_4cfef 22 = .ok (.iload 5, 2) := by decide +kernel
theorem dJ1_indexOfChar_4cfef_24 : decode cJ1_indexOfChar_4cfef 24 = .ok (.ireturn, 1) := by decide +kernel
theorem dJ1_indexOfChar_4cfef_25 : decode cJ1_indexOfChar_4cfef 25 = .ok (.iinc 5 1, 3) := by decide +kernel
theorem dJ1_indexOfChar_4cfef_28 : decode cJ1_indexOfChar_4cfef 28 = .ok (.goto (-21), 3) := by decide +kernel
theorem dJ1_indexOfChar_4cfef_31 : decode cJ1_indexOfChar_4cfef 31 = .ok (.iconst (-1), 1) := by decide +kernel
theorem dJ1_indexOfChar_4cfef_32 : decode cJ1_indexOfChar_4cfef 32 = .ok (.ireturn, 1) := by decide +kernel
theorem dJ2_getChar_3b067_0 : decode cJ2_getChar_3b067 0 = .ok (.getstatic 44, 3) := by decide +kernel
theorem dJ2_getChar_3b067_3 : decode cJ2_getChar_3b067 3 = .ok (.ifCond .ne 25, 3) := by decide +kernel
theorem dJ2_getChar_3b067_6 : decode cJ2_getChar_3b067 6 = .ok (.iload_n 1, 1) := by decide +kernel
theorem dJ2_getChar_3b067_7 : decode cJ2_getChar_3b067 7 = .ok (.ifCond .lt 11, 3) := by decide +kernel
theorem dJ2_getChar_3b067_10 : decode cJ2_getChar_3b067 10 = .ok (.iload_n 1, 1) := by decide +kernel
theorem dJ2_getChar_3b067_11 : decode cJ2_getChar_3b067 11 = .ok (.aload_n 0, 1) := by decide +kernel
theorem dJ2_getChar_3b067_12 : decode cJ2_getChar_3b067 12 = .ok (.invokestatic 48, 3) := by decide +kernel
theorem dJ2_getChar_3b067_15 : decode cJ2_getChar_3b067 15 = .ok (.if_icmp .lt 13, 3) := by decide +kernel
theorem dJ2_getChar_3b067_18 : decode cJ2_getChar_3b067 18 = .ok (.new 52, 3) := by decide +kernel
theorem dJ2_getChar_3b067_21 : decode cJ2_getChar_3b067 21 = .ok (.dup, 1) := by decide +kernel
theorem dJ2_getChar_3b067_22 : decode cJ2_getChar_3b067 22 = .ok (.ldc 54, 2) := by decide +kernel
theorem dJ2_getChar_3b067_24 : decode cJ2_getChar_3b067 24 = .ok (.invokespecial 56, 3) := by decide +kernel
theorem dJ2_getChar_3b067_27 : decode cJ2_getChar_3b067 27 = .ok (.athrow, 1) := by decide +kernel
theorem dJ2_getChar_3b067_28 : decode cJ2_getChar_3b067 28 = .ok (.iload_n 1, 1) := by decide +kernel
theorem dJ2_getChar_3b067_29 : decode cJ2_getChar_3b067 29 = .ok (.iconst 1, 1) := by decide +kernel
theorem dJ2_getChar_3b067_30 : decode cJ2_getChar_3b067 30 = .ok (.ishl, 1) := by decide +kernel
theorem dJ2_getChar_3b067_31 : decode cJ2_getChar_3b067 31 = .ok (.istore_n 1, 1) := by decide +kernel
theorem dJ2_getChar_3b067_32 : decode cJ2_getChar_3b067 32 = .ok (.aload_n 0, 1) := by decide +kernel
theorem dJ2_getChar_3b067_33 : decode cJ2_getChar_3b067 33 = .ok (.iload_n 1, 1) := by decide +kernel
theorem dJ2_getChar_3b067_34 : decode cJ2_getChar_3b067 34 = .ok (.iinc 1 1, 3) := by decide +kernel
theorem dJ2_getChar_3b067_37 : decode cJ2_getChar_3b067 37 = .ok (.baload, 1) := by decide +kernel
theorem dJ2_getChar_3b067_38 : decode cJ2_getChar_3b067 38 = .ok (.sipush 255, 3) := by decide +kernel
theorem dJ2_getChar_3b067_41 : decode cJ2_getChar_3b067 41 = .ok (.iand, 1) := by decide +kernel
theorem dJ2_getChar_3b067_42 : decode cJ2_getChar_3b067 42 = .ok (.getstatic 59, 3) := by decide +kernel
theorem dJ2_getChar_3b067_45 : decode cJ2_getChar_3b067 45 = .ok (.ishl, 1) := by decide +kernel
theorem dJ2_getChar_3b067_46 : decode cJ2_getChar_3b067 46 = .ok (.aload_n 0, 1) := by decide +kernel
theorem dJ2_getChar_3b067_47 : decode cJ2_getChar_3b067 47 = .ok (.iload_n 1, 1) := by decide +kernel
theorem dJ2_getChar_3b067_48 : decode cJ2_getChar_3b067 48 = .ok (.baload, 1) := by decide +kernel
theorem dJ2_getChar_3b067_49 : decode cJ2_getChar_3b067 49 = .ok (.sipush 255, 3) := by decide +kernel
theorem dJ2_getChar_3b067_52 : decode cJ2_getChar_3b067 52 = .ok (.iand, 1) := by decide +kernel
theorem dJ2_getChar_3b067_53 : decode cJ2_getChar_3b067 53 = .ok (.getstatic 63, 3) := by decide +kernel
theorem dJ2_getChar_3b067_56 : decode cJ2_getChar_3b067 56 = .ok (.ishl, 1) := by decide +kernel
theorem dJ2_getChar_3b067_57 : decode cJ2_getChar_3b067 57 = .ok (.ior, 1) := by decide +kernel
theorem dJ2_getChar_3b067_58 : decode cJ2_getChar_3b067 58 = .ok (.i2c, 1) := by decide +kernel
theorem dJ2_getChar_3b067_59 : decode cJ2_getChar_3b067 59 = .ok (.ireturn, 1) := by decide +kernel
theorem dJ2_length_9d52b_0 : decode cJ2_length_9d52b 0 = .ok (.aload_n 0, 1) := by decide +kernel
theorem dJ2_length_9d52b_1 : decode cJ2_length_9d52b 1 = .ok (.arraylength, 1) := by decide +kernel
theorem dJ2_length_9d52b_2 : decode cJ2_length_9d52b 2 = .ok (.iconst 1, 1) := by decide +kernel
theorem dJ2_length_9d52b_3 : decode cJ2_length_9d52b 3 = .ok (.ishr, 1) := by decide +kernel
theorem dJ2_length_9d52b_4 : decode cJ2_length_9d52b 4 = .ok (.ireturn, 1) := by decide +kernel
theorem dJ2_indexOf_4cfef_0 : decode cJ2_indexOf_4cfef 0 = .ok (.iload_n 2, 1) := by decide +kernel
theorem dJ2_indexOf_4cfef_1 : decode cJ2_indexOf_4cfef 1 = .ok (.iconst 0, 1) := by decide +kernel
theorem dJ2_indexOf_4cfef_2 : decode cJ2_indexOf_4cfef 2 = .ok (.invokestatic 224, 3) := by decide +kernel
theorem dJ2_indexOf_4cfef_5 : decode cJ2_indexOf_4cfef 5 = .ok (.istore_n 2, 1) := by decide +kernel
theorem dJ2_indexOf_4cfef_6 : decode cJ2_indexOf_4cfef 6 = .ok (.iload_n 3, 1) := by decide +kernel
theorem dJ2_indexOf_4cfef_7 : decode cJ2_indexOf_4cfef 7 = .ok (.aload_n 0, 1) := by decide +kernel
theorem dJ2_indexOf_4cfef_8 : decode cJ2_indexOf_4cfef 8 = .ok (.arraylength, 1) := by decide +kernel
theorem dJ2_indexOf_4cfef_9 : decode cJ2_indexOf_4cfef 9 = .ok (.iconst 1, 1) := by decide +kernel
theorem dJ2_indexOf_4cfef_10 : decode cJ2_indexOf_4cfef 10 = .ok (.ishr, 1) := by decide +kernel
theorem dJ2_indexOf_4cfef_11 : decode cJ2_indexOf_4cfef 11 = .ok (.invokestatic 183, 3) := by decide +kernel
theorem dJ2_indexOf_4cfef_14 : decode cJ2_indexOf_4cfef 14 = .ok (.istore_n 3, 1) := by decide +kernel
theorem dJ2_indexOf_4cfef_15 : decode cJ2_indexOf_4cfef 15 = .ok (.iload_n 2, 1) := by decide +kernel
theorem dJ2_indexOf_4cfef_16 : decode cJ2_indexOf_4cfef 16 = .ok (.iload_n 3, 1) := by decide +kernel
theorem dJ2_indexOf_4cfef_17 : decode cJ2_indexOf_4cfef 17 = .ok (.if_icmp .lt 5, 3) := by decide +kernel
theorem dJ2_indexOf_4cfef_20 : decode cJ2_indexOf_4cfef 20 = .ok (.iconst (-1), 1) := by decide +kernel
theorem dJ2_indexOf_4cfef_21 : decode cJ2_indexOf_4cfef 21 = .ok (.ireturn, 1) := by decide +kernel
theorem dJ2_indexOf_4cfef_22 : decode cJ2_indexOf_4cfef 22 = .ok (.iload_n 1, 1) := by decide +kernel
theorem dJ2_indexOf_4cfef_23 : decode cJ2_indexOf_4cfef 23 = .ok (.ldc 227, 2) := by decide +kernel
theorem dJ2_indexOf_4cfef_25 : decode cJ2_indexOf_4cfef 25 = .ok (.if_icmp .ge 11, 3) := by decide +kernel
theorem dJ2_indexOf_4cfef_28 : decode cJ2_indexOf_4cfef 28 = .ok (.aload_n 0, 1) := by decide +kernel
theorem dJ2_indexOf_4cfef_29 : decode cJ2_indexOf_4cfef 29 = .ok (.iload_n 1, 1) := by decide +kernel
theorem dJ2_indexOf_4cfef_30 : decode cJ2_indexOf_4cfef 30 = .ok (.iload_n 2, 1) := by decide +kernel
theorem dJ2_indexOf_4cfef_31 : decode cJ2_indexOf_4cfef 31 = .ok (.iload_n 3, 1) := by decide +kernel
theorem dJ2_indexOf_4cfef_32 : decode cJ2_indexOf_4cfef 32 = .ok (.invokestatic 228, 3) := by decide +kernel
theorem dJ2_indexOf_4cfef_35 : decode cJ2_indexOf_4cfef 35 = .ok (.ireturn, 1) := by decide +kernel
theorem dJ2_indexOf_4cfef_36 : decode cJ2_indexOf_4cfef 36 = .ok (.aload_n 0, 1) := by decide +kernel
theorem dJ2_indexOf_4cfef_37 : decode cJ2_indexOf_4cfef 37 = .ok (.iload_n 1, 1) := by decide +kernel
theorem dJ2_indexOf_4cfef_38 : decode cJ2_indexOf_4cfef 38 = .ok (.iload_n 2, 1) := by decide +kernel
theorem dJ2_indexOf_4cfef_39 : decode cJ2_indexOf_4cfef 39 = .ok (.iload_n 3, 1) := by decide +kernel
theorem dJ2_indexOf_4cfef_40 : decode cJ2_indexOf_4cfef 40 = .ok (.invokestatic 232, 3) := by decide +kernel
theorem dJ2_indexOf_4cfef_43 : decode cJ2_indexOf_4cfef 43 = .ok (.ireturn, 1) := by decide +kernel
theorem dJ2_indexOfChar_4cfef_0 : decode cJ2_indexOfChar_4cfef 0 = .ok (.iload_n 2, 1) := by decide +kernel
theorem dJ2_indexOfChar_4cfef_1 : decode cJ2_indexOfChar_4cfef 1 = .ok (.iload_n 3, 1) := by decide +kernel
theorem dJ2_indexOfChar_4cfef_2 : decode cJ2_indexOfChar_4cfef 2 = .ok (.aload_n 0, 1) := by decide +kernel
theorem dJ2_indexOfChar_4cfef_3 : decode cJ2_indexOfChar_4cfef 3 = .ok (.invokestatic 96, 3) := by decide +kernel
theorem dJ2_indexOfChar_4cfef_6 : decode cJ2_indexOfChar_4cfef 6 = .ok (.aload_n 0, 1) := by decide +kernel
theorem dJ2_indexOfChar_4cfef_7 : decode cJ2_indexOfChar_4cfef 7 = .ok (.iload_n 1, 1) := by decide +kernel
theorem dJ2_indexOfChar_4cfef_8 : decode cJ2_indexOfChar_4cfef 8 = .ok (.iload_n 2, 1) := by decide +kernel
theorem dJ2_indexOfChar_4cfef_9 : decode cJ2_indexOfChar_4cfef 9 = .ok (.iload_n 3, 1) := by decide +kernel
theorem dJ2_indexOfChar_4cfef_10 : decode cJ2_indexOfChar_4cfef 10 = .ok (.invokestatic 244, 3) := by decide +kernel
theorem dJ2_indexOfChar_4cfef_13 : decode cJ2_indexOfChar_4cfef 13 = .ok (.ireturn, 1) := by decide +kernel
theorem dJ2_indexOfCharUnsafe_4cfef_0 : decode cJ2_indexOfCharUnsafe_4cfef 0 = .ok (.iload_n 2, 1) := by decide +kernel
theorem dJ2_indexOfCharUnsafe_4cfef_1 : decode cJ2_indexOfCharUnsafe_4cfef 1 = .ok (.istore 4, 2) := by decide +kernel
theorem dJ2_indexOfCharUnsafe_4cfef_3 : decode cJ2_indexOfCharUnsafe_4cfef 3 = .ok (.iload 4, 2) := by decide +kernel
theorem dJ2_indexOfCharUnsafe_4cfef_5 : decode cJ2_indexOfCharUnsafe_4cfef 5 = .ok (.iload_n 3, 1) := by decide +kernel
theorem dJ2_indexOfCharUnsafe_4cfef_6 : decode cJ2_indexOfCharUnsafe_4cfef 6 = .ok (.if_icmp .ge 22, 3) := by decide +kernel
theorem dJ2_indexOfCharUnsafe_4cfef_9 : decode cJ2_indexOfCharUnsafe_4cfef 9 = .ok (.aload_n 0, 1) := by decide +kernel
theorem dJ2_indexOfCharUnsafe_4cfef_10 : decode cJ2_indexOfCharUnsafe_4cfef 10 = .ok (.iload 4, 2) := by decide +kernel
theorem dJ2_indexOfCharUnsafe_4cfef_12 : decode cJ2_indexOfCharUnsafe_4cfef 12 = .ok (.invokestatic 71, 3) := by decide +kernel
theorem dJ2_indexOfCharUnsafe_4cfef_15 : decode cJ2_indexOfCharUnsafe_4cfef 15 = .ok (.iload_n 1, 1) := by decide +kernel
theorem dJ2_indexOfCharUnsafe_4cfef_16 : decode cJ2_indexOfCharUnsafe_4cfef 16 = .ok (.if_icmp .ne 6, 3) := by decide +kernel
theorem dJ2_indexOfCharUnsafe_4cfef_19 : decode cJ2_indexOfCharUnsafe_4cfef 19 = .ok (.iload 4, 2) := by decide +kernel
theorem dJ2_indexOfCharUnsafe_4cfef_21 : decode cJ2_indexOfCharUnsafe_4cfef 21 = .ok (.ireturn, 1) := by decide +kernel
theorem dJ2_indexOfCharUnsafe_4cfef_22 : decode cJ2_indexOfCharUnsafe_4cfef 22 = .ok (.iinc 4 1, 3) := by decide +kernel
theorem dJ2_indexOfCharUnsafe_4cfef_25 : decode cJ2_indexOfCharUnsafe_4cfef 25 = .ok (.goto (-22), 3) := by decide +kernel
theorem dJ2_indexOfCharUnsafe_4cfef_28 : decode cJ2_indexOfCharUnsafe_4cfef 28 = .ok (.iconst (-1), 1) := by decide +kernel
theorem dJ2_indexOfCharUnsafe_4cfef_29 : decode cJ2_indexOfCharUnsafe_4cfef 29 = .ok (.ireturn, 1) := by decide +kernel
theorem dJ2_indexOfSupplementary_4cfef_0 : decode cJ2_indexOfSupplementary_4cfef 0 = .ok (.iload_n 1, 1) := by decide +kernel
theorem dJ2_indexOfSupplementary_4cfef_1 : decode cJ2_indexOfSupplementary_4cfef 1 = .ok (.invokestatic 164, 3) := by decide +kernel
theorem dJ2_indexOfSupplementary_4cfef_4 : decode cJ2_indexOfSupplementary_4cfef 4 = .ok (.ifCond .eq 65, 3) := by decide +kernel
theorem dJ2_indexOfSupplementary_4cfef_7 : decode cJ2_indexOfSupplementary_4cfef 7 = .ok (.iload_n 1, 1) := by decide +kernel
theorem dJ2_indexOfSupplementary_4cfef_8 : decode cJ2_indexOfSupplementary_4cfef 8 = .ok (.invokestatic 157, 3) := by decide +kernel
theorem dJ2_indexOfSupplementary_4cfef_11 : decode cJ2_indexOfSupplementary_4cfef 11 = .ok (.istore 4, 2) := by decide +kernel
theorem dJ2_indexOfSupplementary_4cfef_13 : decode cJ2_indexOfSupplementary_4cfef 13 = .ok (.iload_n 1, 1) := by decide +kernel
theorem dJ2_indexOfSupplementary_4cfef_14 : decode cJ2_indexOfSupplementary_4cfef 14 = .ok (.invokestatic 161, 3) := by decide +kernel
theorem dJ2_indexOfSupplementary_4cfef_17 : decode cJ2_indexOfSupplementary_4cfef 17 = .ok (.istore 5, 2) := by decide +kernel
theorem dJ2_indexOfSupplementary_4cfef_19 : decode cJ2_indexOfSupplementary_4cfef 19 = .ok (.iload_n 2, 1) := by decide +kernel
theorem dJ2_indexOfSupplementary_4cfef_20 : decode cJ2_indexOfSupplementary_4cfef 20 = .ok (.iload_n 3, 1) := by decide +kernel
theorem dJ2_indexOfSupplementary_4cfef_21 : decode cJ2_indexOfSupplementary_4cfef 21 = .ok (.aload_n 0, 1) := by decide +kernel
theorem dJ2_indexOfSupplementary_4cfef_22 : decode cJ2_indexOfSupplementary_4cfef 22 = .ok (.invokestatic 96, 3) := by decide +kernel
theorem dJ2_indexOfSupplementary_4cfef_25 : decode cJ2_indexOfSupplementary_4cfef 25 = .ok (.iload_n 2, 1) := by decide +kernel
theorem dJ2_indexOfSupplementary_4cfef_26 : decode cJ2_indexOfSupplementary_4cfef 26 = .ok (.istore 6, 2) := by decide +kernel
theorem dJ2_indexOfSupplementary_4cfef_28 : decode cJ2_indexOfSupplementary_4cfef 28 = .ok (.iload 6, 2) := by decide +kernel
theorem dJ2_indexOfSupplementary_4cfef_30 : decode cJ2_indexOfSupplementary_4cfef 30 = .ok (.iload_n 3, 1) := by decide +kernel
theorem dJ2_indexOfSupplementary_4cfef_31 : decode cJ2_indexOfSupplementary_4cfef 31 = .ok (.iconst 1, 1) := by decide +kernel
theorem dJ2_indexOfSupplementary_4cfef_32 : decode cJ2_indexOfSupplementary_4cfef 32 = .ok (.isub, 1) := by decide +kernel
theorem dJ2_indexOfSupplementary_4cfef_33 : decode cJ2_indexOfSupplementary_4cfef 33 = .ok (.if_icmp .ge 36, 3) := by decide +kernel
theorem dJ2_indexOfSupplementary_4cfef_36 : decode cJ2_indexOfSupplementary_4cfef 36 = .ok (.aload_n 0, 1) := by decide +kernel
theorem dJ2_indexOfSupplementary_4cfef_37 : decode cJ2_indexOfSupplementary_4cfef 37 = .ok (.iload 6, 2) := by decide +kernel
theorem dJ2_indexOfSupplementary_4cfef_39 : decode cJ2_indexOfSupplementary_4cfef 39 = .ok (.invokestatic 71, 3) := by decide +kernel
theorem dJ2_indexOfSupplementary_4cfef_42 : decode cJ2_indexOfSupplementary_4cfef 42 = .ok (.iload 4, 2) := by decide +kernel
theorem dJ2_indexOfSupplementary_4cfef_44 : decode cJ2_indexOfSupplementary_4cfef 44 = .ok (.if_icmp .ne 19, 3) := by decide +kernel
theorem dJ2_indexOfSupplementary_4cfef_47 : decode cJ2_indexOfSupplementary_4cfef 47 = .ok (.aload_n 0, 1) := by decide +kernel
theorem dJ2_indexOfSupplementary_4cfef_48 : decode cJ2_indexOfSupplementary_4cfef 48 = .ok (.iload 6, 2) := by decide +kernel
theorem dJ2_indexOfSupplementary_4cfef_50 : decode cJ2_indexOfSupplementary_4cfef 50 = .ok (.iconst 1, 1) := by decide +kernel
theorem dJ2_indexOfSupplementary_4cfef_51 : decode cJ2_indexOfSupplementary_4cfef 51 = .ok (.iadd, 1) := by decide +kernel
theorem dJ2_indexOfSupplementary_4cfef_52 : decode cJ2_indexOfSupplementary_4cfef 52 = .ok (.invokestatic 71, 3) := by decide +kernel
theorem dJ2_indexOfSupplementary_4cfef_55 : decode cJ2_indexOfSupplementary_4cfef 55 = .ok (.iload 5, 2) := by decide +kernel
theorem dJ2_indexOfSupplementary_4cfef_57 : decode cJ2_indexOfSupplementary_4cfef 57 = .ok (.if_icmp .ne 6, 3) := by decide +kernel
theorem dJ2_indexOfSupplementary_4cfef_60 : decode cJ2_indexOfSupplementary_4cfef 60 = .ok (.iload 6, 2) := by decide +kernel
theorem dJ2_indexOfSupplementary_4cfef_62 : decode cJ2_indexOfSupplementary_4cfef 62 = .ok (.ireturn, 1) := by decide +kernel
theorem dJ2_indexOfSupplementary_4cfef_63 : decode cJ2_indexOfSupplementary_4cfef 63 = .ok (.iinc 6 1, 3) := by decide +kernel
theorem dJ2_indexOfSupplementary_4cfef_66 : decode cJ2_indexOfSupplementary_4cfef 66 = .ok (.goto (-38), 3) := by decide +kernel
theorem dJ2_indexOfSupplementary_4cfef_69 : decode cJ2_indexOfSupplementary_4cfef 69 = .ok (.iconst (-1), 1) := by decide +kernel
theorem dJ2_indexOfSupplementary_4cfef_70 : decode cJ2_indexOfSupplementary_4cfef 70 = .ok (.ireturn, 1) := by decide +kernel
theorem dJ2_checkBoundsBeginEnd_d044e_0 : decode cJ2_checkBoundsBeginEnd_d044e 0 = .ok (.iload_n 0, 1) := by decide +kernel
theorem dJ2_checkBoundsBeginEnd_d044e_1 : decode cJ2_checkBoundsBeginEnd_d044e 1 = .ok (.iload_n 1, 1) := by decide +kernel
theorem dJ2_checkBoundsBeginEnd_d044e_2 : decode cJ2_checkBoundsBeginEnd_d044e 2 = .ok (.aload_n 2, 1) := by decide +kernel
theorem dJ2_checkBoundsBeginEnd_d044e_3 : decode cJ2_checkBoundsBeginEnd_d044e 3 = .ok (.invokestatic 48, 3) := by decide +kernel
theorem dJ2_checkBoundsBeginEnd_d044e_6 : decode cJ2_checkBoundsBeginEnd_d044e 6 = .ok (.invokestatic 241, 3) := by decide +kernel
theorem dJ2_checkBoundsBeginEnd_d044e_9 : decode cJ2_checkBoundsBeginEnd_d044e 9 = .ok (.return_, 1) := by decide +kernel
theorem dJ7_fill_53178_0 : decode cJ7_fill_53178 0 = .ok (.iconst 0, 1) := by decide +kernel
theorem dJ7_fill_53178_1 : decode cJ7_fill_53178 1 = .ok (.istore_n 2, 1) := by decide +kernel
theorem dJ7_fill_53178_2 : decode cJ7_fill_53178 2 = .ok (.aload_n 0, 1) := by decide +kernel
theorem dJ7_fill_53178_3 : decode cJ7_fill_53178 3 = .ok (.arraylength, 1) := by decide +kernel
theorem dJ7_fill_53178_4 : decode cJ7_fill_53178 4 = .ok (.istore_n 3, 1) := by decide +kernel
theorem dJ7_fill_53178_5 : decode cJ7_fill_53178 5 = .ok (.iload_n 2, 1) := by decide +kernel
theorem dJ7_fill_53178_6 : decode cJ7_fill_53178 6 = .ok (.iload_n 3, 1) := by decide +kernel
theorem dJ7_fill_53178_7 : decode cJ7_fill_53178 7 = .ok (.if_icmp .ge 13, 3) := by decide +kernel
theorem dJ7_fill_53178_10 : decode cJ7_fill_53178 10 = .ok (.aload_n 0, 1) := by decide +kernel
theorem dJ7_fill_53178_11 : decode cJ7_fill_53178 11 = .ok (.iload_n 2, 1) := by decide +kernel
theorem dJ7_fill_53178_12 : decode cJ7_fill_53178 12 = .ok (.iload_n 1, 1) := by decide +kernel
theorem dJ7_fill_53178_13 : decode cJ7_fill_53178 13 = .ok (.iastore, 1) := by decide +kernel
theorem dJ7_fill_53178_14 : decode cJ7_fill_53178 14 = .ok (.iinc 2 1, 3) := by decide +kernel
theorem dJ7_fill_53178_17 : decode cJ7_fill_53178 17 = .ok (.goto (-12), 3) := by decide +kernel
theorem dJ7_fill_53178_20 : decode cJ7_fill_53178 20 = .ok (.return_, 1) := by decide +kernel
theorem dJ7_copyOf_59c91_0 : decode cJ7_copyOf_59c91 0 = .ok (.iload_n 1, 1) := by decide +kernel
theorem dJ7_copyOf_59c91_1 : decode cJ7_copyOf_59c91 1 = .ok (.aload_n 0, 1) := by decide +kernel
theorem dJ7_copyOf_59c91_2 : decode cJ7_copyOf_59c91 2 = .ok (.arraylength, 1) := by decide +kernel
theorem dJ7_copyOf_59c91_3 : decode cJ7_copyOf_59c91 3 = .ok (.if_icmp .ne 11, 3) := by decide +kernel
theorem dJ7_copyOf_59c91_6 : decode cJ7_copyOf_59c91 6 = .ok (.aload_n 0, 1) := by decide +kernel
theorem dJ7_copyOf_59c91_7 : decode cJ7_copyOf_59c91 7 = .ok (.invokevirtual 316, 3) := by decide +kernel
theorem dJ7_copyOf_59c91_10 : decode cJ7_copyOf_59c91 10 = .ok (.checkcast 317, 3) := by decide +kernel
theorem dJ7_copyOf_59c91_13 : decode cJ7_copyOf_59c91 13 = .ok (.areturn, 1) := by decide +kernel
theorem dJ7_copyOf_59c91_14 : decode cJ7_copyOf_59c91 14 = .ok (.iload_n 1, 1) := by decide +kernel
theorem dJ7_copyOf_59c91_15 : decode cJ7_copyOf_59c91 15 = .ok (.newarray .int, 2) := by decide +kernel
theorem dJ7_copyOf_59c91_17 : decode cJ7_copyOf_59c91 17 = .ok (.astore_n 2, 1) := by decide +kernel
theorem dJ7_copyOf_59c91_18 : decode cJ7_copyOf_59c91 18 = .ok (.aload_n 0, 1) := by decide +kernel
theorem dJ7_copyOf_59c91_19 : decode cJ7_copyOf_59c91 19 = .ok (.iconst 0, 1) := by decide +kernel
theorem dJ7_copyOf_59c91_20 : decode cJ7_copyOf_59c91 20 = .ok (.aload_n 2, 1) := by decide +kernel
theorem dJ7_copyOf_59c91_21 : decode cJ7_copyOf_59c91 21 = .ok (.iconst 0, 1) := by decide +kernel
theorem dJ7_copyOf_59c91_22 : decode cJ7_copyOf_59c91 22 = .ok (.aload_n 0, 1) := by decide +kernel
theorem dJ7_copyOf_59c91_23 : decode cJ7_copyOf_59c91 23 = .ok (.arraylength, 1) := by decide +kernel
theorem dJ7_copyOf_59c91_24 : decode cJ7_copyOf_59c91 24 = .ok (.iload_n 1, 1) := by decide +kernel
theorem dJ7_copyOf_59c91_25 : decode cJ7_copyOf_59c91 25 = .ok (.invokestatic 304, 3) := by decide +kernel
theorem dJ7_copyOf_59c91_28 : decode cJ7_copyOf_59c91 28 = .ok (.invokestatic 150, 3) := by decide +kernel
theorem dJ7_copyOf_59c91_31 : decode cJ7_copyOf_59c91 31 = .ok (.aload_n 2, 1) := by decide +kernel
theorem dJ7_copyOf_59c91_32 : decode cJ7_copyOf_59c91 32 = .ok (.areturn, 1) := by decide +kernel
theorem dJ3_checkFromToIndex_8c36e_0 : decode cJ3_checkFromToIndex_8c36e 0 = .ok (.iload_n 0, 1) := by decide +kernel
theorem dJ3_checkFromToIndex_8c36e_1 : decode cJ3_checkFromToIndex_8c36e 1 = .ok (.ifCond .lt 13, 3) := by decide +kernel
theorem dJ3_checkFromToIndex_8c36e_4 : decode cJ3_checkFromToIndex_8c36e 4 = .ok (.iload_n 0, 1) := by decide +kernel
theorem dJ3_checkFromToIndex_8c36e_5 : decode cJ3_checkFromToIndex_8c36e 5 = .ok (.iload_n 1, 1) := by decide +kernel
theorem dJ3_checkFromToIndex_8c36e_6 : decode cJ3_checkFromToIndex_8c36e 6 = .ok (.if_icmp .gt 8, 3) := by decide +kernel
theorem dJ3_checkFromToIndex_8c36e_9 : decode cJ3_checkFromToIndex_8c36e 9 = .ok (.iload_n 1, 1) := by decide +kernel
theorem dJ3_checkFromToIndex_8c36e_10 : decode cJ3_checkFromToIndex_8c36e 10 = .ok (.iload_n 2, 1) := by decide +kernel
theorem dJ3_checkFromToIndex_8c36e_11 : decode cJ3_checkFromToIndex_8c36e 11 = .ok (.if_icmp .le 11, 3) := by decide +kernel
theorem dJ3_checkFromToIndex_8c36e_14 : decode cJ3_checkFromToIndex_8c36e 14 = .ok (.aload_n 3, 1) := by decide +kernel
theorem dJ3_checkFromToIndex_8c36e_15 : decode cJ3_checkFromToIndex_8c36e 15 = .ok (.iload_n 0, 1) := by decide +kernel
theorem dJ3_checkFromToIndex_8c36e_16 : decode cJ3_checkFromToIndex_8c36e 16 = .ok (.iload_n 1, 1) := by decide +kernel
theorem dJ3_checkFromToIndex_8c36e_17 : decode cJ3_checkFromToIndex_8c36e 17 = .ok (.iload_n 2, 1) := by decide +kernel
theorem dJ3_checkFromToIndex_8c36e_18 : decode cJ3_checkFromToIndex_8c36e 18 = .ok (.invokestatic 99, 3) := by decide +kernel
theorem dJ3_checkFromToIndex_8c36e_21 : decode cJ3_checkFromToIndex_8c36e 21 = .ok (.athrow, 1) := by decide +kernel
theorem dJ3_checkFromToIndex_8c36e_22 : decode cJ3_checkFromToIndex_8c36e 22 = .ok (.iload_n 0, 1) := by decide +kernel
theorem dJ3_checkFromToIndex_8c36e_23 : decode cJ3_checkFromToIndex_8c36e 23 = .ok (.ireturn, 1) := by decide +kernel
theorem dL_rests_0 : decode cL_rests 0 = .ok (.aload 5, 2) := by decide +kernel
theorem dL_rests_2 : decode cL_rests 2 = .ok (.iconst 0, 1) := by decide +kernel
theorem dL_rests_3 : decode cL_rests 3 = .ok (.aload_n 0, 1) := by decide +kernel
theorem dL_rests_4 : decode cL_rests 4 = .ok (.iload_n 1, 1) := by decide +kernel
theorem dL_rests_5 : decode cL_rests 5 = .ok (.iload_n 2, 1) := by decide +kernel
theorem dL_rests_6 : decode cL_rests 6 = .ok (.iload_n 3, 1) := by decide +kernel
theorem dL_rests_7 : decode cL_rests 7 = .ok (.iload 4, 2) := by decide +kernel
theorem dL_rests_9 : decode cL_rests 9 = .ok (.invokevirtual 7, 3) := by decide +kernel
theorem dL_rests_12 : decode cL_rests 12 = .ok (.i2l, 1) := by decide +kernel
theorem dL_rests_13 : decode cL_rests 13 = .ok (.lastore, 1) := by decide +kernel
theorem dL_rests_14 : decode cL_rests 14 = .ok (.goto 7, 3) := by decide +kernel
theorem dL_rests_17 : decode cL_rests 17 = .ok (.astore 6, 2) := by decide +kernel
theorem dL_rests_19 : decode cL_rests 19 = .ok (.iconst 1, 1) := by decide +kernel
theorem dL_rests_20 : decode cL_rests 20 = .ok (.ireturn, 1) := by decide +kernel
theorem dL_rests_21 : decode cL_rests 21 = .ok (.iconst 0, 1) := by decide +kernel
theorem dL_rests_22 : decode cL_rests 22 = .ok (.ireturn, 1) := by decide +kernel
