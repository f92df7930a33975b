theorem dX13_takePart_21 : decode cX13_takePart 21 = .ok (.iconst 1, 1) := by decide +kernel
theorem dX13_takePart_22 : decode cX13_takePart 22 = .ok (.goto 4, 3) := by decide +kernel
theorem dX13_takePart_25 : decode cX13_takePart 25 = .ok (.iconst 0, 1) := by decide +kernel
theorem dX13_takePart_26 : decode cX13_takePart 26 = .ok (.istore_n 2, 1) := by decide +kernel
theorem dX13_takePart_27 : decode cX13_takePart 27 = .ok (.aload_n 0, 1) := by decide +kernel
theorem dX13_takePart_28 : decode cX13_takePart 28 = .ok (.bipush 25, 2) := by decide +kernel
theorem dX13_takePart_30 : decode cX13_takePart 30 = .ok (.iconst 4, 1) := by decide +kernel
theorem dX13_takePart_31 : decode cX13_takePart 31 = .ok (.invokevirtual 214, 3) := by decide +kernel
theorem dX13_takePart_34 : decode cX13_takePart 34 = .ok (.istore_n 3, 1) := by decide +kernel
theorem dX13_takePart_35 : decode cX13_takePart 35 = .ok (.iload_n 3, 1) := by decide +kernel
theorem dX13_takePart_36 : decode cX13_takePart 36 = .ok (.ifCond .lt 19, 3) := by decide +kernel
theorem dX13_takePart_39 : decode cX13_takePart 39 = .ok (.aload_n 0, 1) := by decide +kernel
theorem dX13_takePart_40 : decode cX13_takePart 40 = .ok (.getfield 289, 3) := by decide +kernel
theorem dX13_takePart_43 : decode cX13_takePart 43 = .ok (.iload_n 3, 1) := by decide +kernel
theorem dX13_takePart_44 : decode cX13_takePart 44 = .ok (.ishr, 1) := by decide +kernel
theorem dX13_takePart_45 : decode cX13_takePart 45 = .ok (.iconst 1, 1) := by decide +kernel
theorem dX13_takePart_46 : decode cX13_takePart 46 = .ok (.iand, 1) := by decide +kernel
theorem dX13_takePart_47 : decode cX13_takePart 47 = .ok (.iconst 1, 1) := by decide +kernel
theorem dX13_takePart_48 : decode cX13_takePart 48 = .ok (.if_icmp .ne 7, 3) := by decide +kernel
theorem dX13_takePart_51 : decode cX13_takePart 51 = .ok (.iload_n 3, 1) := by decide +kernel
theorem dX13_takePart_52 : decode cX13_takePart 52 = .ok (.goto 4, 3) := by decide +kernel
theorem dX13_takePart_55 : decode cX13_takePart 55 = .ok (.iconst (-1), 1) := by decide +kernel
theorem dX13_takePart_56 : decode cX13_takePart 56 = .ok (.istore_n 3, 1) := by decide +kernel
theorem dX13_takePart_57 : decode cX13_takePart 57 = .ok (.iload_n 3, 1) := by decide +kernel
theorem dX13_takePart_58 : decode cX13_takePart 58 = .ok (.ifCond .ge 33, 3) := by decide +kernel
theorem dX13_takePart_61 : decode cX13_takePart 61 = .ok (.iload_n 2, 1) := by decide +kernel
theorem dX13_takePart_62 : decode cX13_takePart 62 = .ok (.ifCond .ne 29, 3) := by decide +kernel
theorem dX13_takePart_65 : decode cX13_takePart 65 = .ok (.aload_n 0, 1) := by decide +kernel
theorem dX13_takePart_66 : decode cX13_takePart 66 = .ok (.bipush 40, 2) := by decide +kernel
theorem dX13_takePart_68 : decode cX13_takePart 68 = .ok (.invokevirtual 195, 3) := by decide +kernel
theorem dX13_takePart_71 : decode cX13_takePart 71 = .ok (.ifCond .ne 20, 3) := by decide +kernel
theorem dX13_takePart_74 : decode cX13_takePart 74 = .ok (.aload_n 0, 1) := by decide +kernel
theorem dX13_takePart_75 : decode cX13_takePart 75 = .ok (.bipush 22, 2) := by decide +kernel
theorem dX13_takePart_77 : decode cX13_takePart 77 = .ok (.invokevirtual 201, 3) := by decide +kernel
theorem dX13_takePart_80 : decode cX13_takePart 80 = .ok (.ifCond .ne 11, 3) := by decide +kernel
theorem dX13_takePart_83 : decode cX13_takePart 83 = .ok (.aload_n 0, 1) := by decide +kernel
theorem dX13_takePart_84 : decode cX13_takePart 84 = .ok (.iconst 1, 1) := by decide +kernel
theorem dX13_takePart_85 : decode cX13_takePart 85 = .ok (.invokevirtual 198, 3) := by decide +kernel
theorem dX13_takePart_88 : decode cX13_takePart 88 = .ok (.goto 13, 3) := by decide +kernel
theorem dX13_takePart_91 : decode cX13_takePart 91 = .ok (.iload_n 1, 1) := by decide +kernel
theorem dX13_takePart_92 : decode cX13_takePart 92 = .ok (.iconst 5, 1) := by decide +kernel
theorem dX13_takePart_93 : decode cX13_takePart 93 = .ok (.if_icmp .ne 8, 3) := by decide +kernel
theorem dX13_takePart_96 : decode cX13_takePart 96 = .ok (.aload_n 0, 1) := by decide +kernel
theorem dX13_takePart_97 : decode cX13_takePart 97 = .ok (.iconst 5, 1) := by decide +kernel
theorem dX13_takePart_98 : decode cX13_takePart 98 = .ok (.invokevirtual 198, 3) := by decide +kernel
theorem dX13_takePart_101 : decode cX13_takePart 101 = .ok (.aload_n 0, 1) := by decide +kernel
theorem dX13_takePart_102 : decode cX13_takePart 102 = .ok (.getfield 192, 3) := by decide +kernel
theorem dX13_takePart_105 : decode cX13_takePart 105 = .ok (.ifCond .le 4, 3) := by decide +kernel
theorem dX13_takePart_108 : decode cX13_takePart 108 = .ok (.return_, 1) := by decide +kernel
theorem dX13_takePart_109 : decode cX13_takePart 109 = .ok (.aload_n 0, 1) := by decide +kernel
theorem dX13_takePart_110 : decode cX13_takePart 110 = .ok (.bipush 22, 2) := by decide +kernel
theorem dX13_takePart_112 : decode cX13_takePart 112 = .ok (.invokevirtual 204, 3) := by decide +kernel
theorem dX13_takePart_115 : decode cX13_takePart 115 = .ok (.ifCond .eq 19, 3) := by decide +kernel
theorem dX13_takePart_118 : decode cX13_takePart 118 = .ok (.aload_n 0, 1) := by decide +kernel
theorem dX13_takePart_119 : decode cX13_takePart 119 = .ok (.iload_n 1, 1) := by decide +kernel
theorem dX13_takePart_120 : decode cX13_takePart 120 = .ok (.iconst 1, 1) := by decide +kernel
theorem dX13_takePart_121 : decode cX13_takePart 121 = .ok (.iadd, 1) := by decide +kernel
theorem dX13_takePart_122 : decode cX13_takePart 122 = .ok (.invokevirtual 314, 3) := by decide +kernel
theorem dX13_takePart_125 : decode cX13_takePart 125 = .ok (.aload_n 0, 1) := by decide +kernel
theorem dX13_takePart_126 : decode cX13_takePart 126 = .ok (.iconst 3, 1) := by decide +kernel
theorem dX13_takePart_127 : decode cX13_takePart 127 = .ok (.iconst 0, 1) := by decide +kernel
theorem dX13_takePart_128 : decode cX13_takePart 128 = .ok (.invokevirtual 295, 3) := by decide +kernel
theorem dX13_takePart_131 : decode cX13_takePart 131 = .ok (.goto 69, 3) := by decide +kernel
theorem dX13_takePart_134 : decode cX13_takePart 134 = .ok (.aload_n 0, 1) := by decide +kernel
theorem dX13_takePart_135 : decode cX13_takePart 135 = .ok (.bipush 40, 2) := by decide +kernel
theorem dX13_takePart_137 : decode cX13_takePart 137 = .ok (.invokevirtual 308, 3) := by decide +kernel
theorem dX13_takePart_140 : decode cX13_takePart 140 = .ok (.ifCond .eq 19, 3) := by decide +kernel
theorem dX13_takePart_143 : decode cX13_takePart 143 = .ok (.aload_n 0, 1) := by decide +kernel
theorem dX13_takePart_144 : decode cX13_takePart 144 = .ok (.iload_n 1, 1) := by decide +kernel
theorem dX13_takePart_145 : decode cX13_takePart 145 = .ok (.iconst 1, 1) := by decide +kernel
theorem dX13_takePart_146 : decode cX13_takePart 146 = .ok (.iadd, 1) := by decide +kernel
theorem dX13_takePart_147 : decode cX13_takePart 147 = .ok (.invokevirtual 292, 3) := by decide +kernel
theorem dX13_takePart_150 : decode cX13_takePart 150 = .ok (.aload_n 0, 1) := by decide +kernel
theorem dX13_takePart_151 : decode cX13_takePart 151 = .ok (.bipush 41, 2) := by decide +kernel
theorem dX13_takePart_153 : decode cX13_takePart 153 = .ok (.invokevirtual 248, 3) := by decide +kernel
theorem dX13_takePart_156 : decode cX13_takePart 156 = .ok (.goto 44, 3) := by decide +kernel
theorem dX13_takePart_159 : decode cX13_takePart 159 = .ok (.aload_n 0, 1) := by decide +kernel
theorem dX13_takePart_160 : decode cX13_takePart 160 = .ok (.iload_n 2, 1) := by decide +kernel
theorem dX13_takePart_161 : decode cX13_takePart 161 = .ok (.ifCond .eq 7, 3) := by decide +kernel
theorem dX13_takePart_164 : decode cX13_takePart 164 = .ok (.iconst 1, 1) := by decide +kernel
theorem dX13_takePart_165 : decode cX13_takePart 165 = .ok (.goto 4, 3) := by decide +kernel
theorem dX13_takePart_168 : decode cX13_takePart 168 = .ok (.iconst 2, 1) := by decide +kernel
theorem dX13_takePart_169 : decode cX13_takePart 169 = .ok (.iload_n 2, 1) := by decide +kernel
theorem dX13_takePart_170 : decode cX13_takePart 170 = .ok (.ifCond .eq 16, 3) := by decide +kernel
theorem dX13_takePart_173 : decode cX13_takePart 173 = .ok (.aload_n 0, 1) := by decide +kernel
theorem dX13_takePart_174 : decode cX13_takePart 174 = .ok (.getfield 30, 3) := by decide +kernel
theorem dX13_takePart_177 : decode cX13_takePart 177 = .ok (.aload_n 0, 1) := by decide +kernel
theorem dX13_takePart_178 : decode cX13_takePart 178 = .ok (.getfield 189, 3) := by decide +kernel
theorem dX13_takePart_181 : decode cX13_takePart 181 = .ok (.laload, 1) := by decide +kernel
theorem dX13_takePart_182 : decode cX13_takePart 182 = .ok (.l2i, 1) := by decide +kernel
theorem dX13_takePart_183 : decode cX13_takePart 183 = .ok (.goto 4, 3) := by decide +kernel
theorem dX13_takePart_186 : decode cX13_takePart 186 = .ok (.iload_n 3, 1) := by decide +kernel
theorem dX13_takePart_187 : decode cX13_takePart 187 = .ok (.invokevirtual 295, 3) := by decide +kernel
theorem dX13_takePart_190 : decode cX13_takePart 190 = .ok (.aload_n 0, 1) := by decide +kernel
theorem dX13_takePart_191 : decode cX13_takePart 191 = .ok (.dup, 1) := by decide +kernel
theorem dX13_takePart_192 : decode cX13_takePart 192 = .ok (.getfield 189, 3) := by decide +kernel
theorem dX13_takePart_195 : decode cX13_takePart 195 = .ok (.iconst 1, 1) := by decide +kernel
theorem dX13_takePart_196 : decode cX13_takePart 196 = .ok (.iadd, 1) := by decide +kernel
theorem dX13_takePart_197 : decode cX13_takePart 197 = .ok (.putfield 189, 3) := by decide +kernel
theorem dX13_takePart_200 : decode cX13_takePart 200 = .ok (.return_, 1) := by decide +kernel
set_option maxRecDepth 20000 in
theorem ggX13_worthAt_X13_both : GoodIn wsX13_worthAt wsX13_both := goodIn_r _ [8] (by decide +kernel) (by decide +kernel)
set_option maxRecDepth 20000 in
theorem gX13_worthAt_X13_both : GoodIn wsX13_worthAt (va_wsS RX13 317 yX13_both wsX13_both) := goodIn_app (goodIn_of _ (by decide +kernel)) ggX13_worthAt_X13_both
theorem dX13_worthAt_0 : decode cX13_worthAt 0 = .ok (.iconst 0, 1) := by decide +kernel
theorem dX13_worthAt_1 : decode cX13_worthAt 1 = .ok (.istore_n 2, 1) := by decide +kernel
theorem dX13_worthAt_2 : decode cX13_worthAt 2 = .ok (.iload_n 1, 1) := by decide +kernel
theorem dX13_worthAt_3 : decode cX13_worthAt 3 = .ok (.istore_n 3, 1) := by decide +kernel
theorem dX13_worthAt_4 : decode cX13_worthAt 4 = .ok (.aload_n 0, 1) := by decide +kernel
theorem dX13_worthAt_5 : decode cX13_worthAt 5 = .ok (.getfield 98, 3) := by decide +kernel
theorem dX13_worthAt_8 : decode cX13_worthAt 8 = .ok (.iload_n 3, 1) := by decide +kernel
theorem dX13_worthAt_9 : decode cX13_worthAt 9 = .ok (.iaload, 1) := by decide +kernel
theorem dX13_worthAt_10 : decode cX13_worthAt 10 = .ok (.ifCond .eq 130, 3) := by decide +kernel
theorem dX13_worthAt_13 : decode cX13_worthAt 13 = .ok (.aload_n 0, 1) := by decide +kernel
theorem dX13_worthAt_14 : decode cX13_worthAt 14 = .ok (.getfield 98, 3) := by decide +kernel
theorem dX13_worthAt_17 : decode cX13_worthAt 17 = .ok (.iload_n 3, 1) := by decide +kernel
theorem dX13_worthAt_18 : decode cX13_worthAt 18 = .ok (.iaload, 1) := by decide +kernel
theorem dX13_worthAt_19 : decode cX13_worthAt 19 = .ok (.istore 4, 2) := by decide +kernel
theorem dX13_worthAt_21 : decode cX13_worthAt 21 = .ok (.iload 4, 2) := by decide +kernel
theorem dX13_worthAt_23 : decode cX13_worthAt 23 = .ok (.iconst 1, 1) := by decide +kernel
theorem dX13_worthAt_24 : decode cX13_worthAt 24 = .ok (.if_icmp .eq 9, 3) := by decide +kernel
theorem dX13_worthAt_27 : decode cX13_worthAt 27 = .ok (.iload 4, 2) := by decide +kernel
theorem dX13_worthAt_29 : decode cX13_worthAt 29 = .ok (.iconst 2, 1) := by decide +kernel
theorem dX13_worthAt_30 : decode cX13_worthAt 30 = .ok (.if_icmp .ne 41, 3) := by decide +kernel
theorem dX13_worthAt_33 : decode cX13_worthAt 33 = .ok (.aload_n 0, 1) := by decide +kernel
theorem dX13_worthAt_34 : decode cX13_worthAt 34 = .ok (.getfield 122, 3) := by decide +kernel
theorem dX13_worthAt_37 : decode cX13_worthAt 37 = .ok (.iload_n 2, 1) := by decide +kernel
theorem dX13_worthAt_38 : decode cX13_worthAt 38 = .ok (.iload 4, 2) := by decide +kernel
theorem dX13_worthAt_40 : decode cX13_worthAt 40 = .ok (.iconst 1, 1) := by decide +kernel
theorem dX13_worthAt_41 : decode cX13_worthAt 41 = .ok (.if_icmp .ne 12, 3) := by decide +kernel
theorem dX13_worthAt_44 : decode cX13_worthAt 44 = .ok (.aload_n 0, 1) := by decide +kernel
theorem dX13_worthAt_45 : decode cX13_worthAt 45 = .ok (.getfield 101, 3) := by decide +kernel
theorem dX13_worthAt_48 : decode cX13_worthAt 48 = .ok (.iload_n 3, 1) := by decide +kernel
theorem dX13_worthAt_49 : decode cX13_worthAt 49 = .ok (.iaload, 1) := by decide +kernel
theorem dX13_worthAt_50 : decode cX13_worthAt 50 = .ok (.goto 14, 3) := by decide +kernel
theorem dX13_worthAt_53 : decode cX13_worthAt 53 = .ok (.aload_n 0, 1) := by decide +kernel
theorem dX13_worthAt_54 : decode cX13_worthAt 54 = .ok (.getfield 119, 3) := by decide +kernel
theorem dX13_worthAt_57 : decode cX13_worthAt 57 = .ok (.aload_n 0, 1) := by decide +kernel
theorem dX13_worthAt_58 : decode cX13_worthAt 58 = .ok (.getfield 101, 3) := by decide +kernel
theorem dX13_worthAt_61 : decode cX13_worthAt 61 = .ok (.iload_n 3, 1) := by decide +kernel
theorem dX13_worthAt_62 : decode cX13_worthAt 62 = .ok (.iaload, 1) := by decide +kernel
theorem dX13_worthAt_63 : decode cX13_worthAt 63 = .ok (.iaload, 1) := by decide +kernel
theorem dX13_worthAt_64 : decode cX13_worthAt 64 = .ok (.iastore, 1) := by decide +kernel
theorem dX13_worthAt_65 : decode cX13_worthAt 65 = .ok (.iinc 2 1, 3) := by decide +kernel
theorem dX13_worthAt_68 : decode cX13_worthAt 68 = .ok (.goto 66, 3) := by decide +kernel
theorem dX13_worthAt_71 : decode cX13_worthAt 71 = .ok (.iload 4, 2) := by decide +kernel
theorem dX13_worthAt_73 : decode cX13_worthAt 73 = .ok (.iconst 3, 1) := by decide +kernel
theorem dX13_worthAt_74 : decode cX13_worthAt 74 = .ok (.if_icmp .ne 30, 3) := by decide +kernel
theorem dX13_worthAt_77 : decode cX13_worthAt 77 = .ok (.aload_n 0, 1) := by decide +kernel
theorem dX13_worthAt_78 : decode cX13_worthAt 78 = .ok (.getfield 122, 3) := by decide +kernel
theorem dX13_worthAt_81 : decode cX13_worthAt 81 = .ok (.iload_n 2, 1) := by decide +kernel
theorem dX13_worthAt_82 : decode cX13_worthAt 82 = .ok (.iconst 1, 1) := by decide +kernel
theorem dX13_worthAt_83 : decode cX13_worthAt 83 = .ok (.isub, 1) := by decide +kernel
theorem dX13_worthAt_84 : decode cX13_worthAt 84 = .ok (.aload_n 0, 1) := by decide +kernel
theorem dX13_worthAt_85 : decode cX13_worthAt 85 = .ok (.getfield 122, 3) := by decide +kernel
theorem dX13_worthAt_88 : decode cX13_worthAt 88 = .ok (.iload_n 2, 1) := by decide +kernel
theorem dX13_worthAt_89 : decode cX13_worthAt 89 = .ok (.iconst 1, 1) := by decide +kernel
theorem dX13_worthAt_90 : decode cX13_worthAt 90 = .ok (.isub, 1) := by decide +kernel
theorem dX13_worthAt_91 : decode cX13_worthAt 91 = .ok (.iaload, 1) := by decide +kernel
theorem dX13_worthAt_92 : decode cX13_worthAt 92 = .ok (.ifCond .ne 7, 3) := by decide +kernel
theorem dX13_worthAt_95 : decode cX13_worthAt 95 = .ok (.iconst 1, 1) := by decide +kernel
theorem dX13_worthAt_96 : decode cX13_worthAt 96 = .ok (.goto 4, 3) := by decide +kernel
theorem dX13_worthAt_99 : decode cX13_worthAt 99 = .ok (.iconst 0, 1) := by decide +kernel
theorem dX13_worthAt_100 : decode cX13_worthAt 100 = .ok (.iastore, 1) := by decide +kernel
theorem dX13_worthAt_101 : decode cX13_worthAt 101 = .ok (.goto 33, 3) := by decide +kernel
theorem dX13_worthAt_104 : decode cX13_worthAt 104 = .ok (.iinc 2 (-1), 3) := by decide +kernel
theorem dX13_worthAt_107 : decode cX13_worthAt 107 = .ok (.aload_n 0, 1) := by decide +kernel
theorem dX13_worthAt_108 : decode cX13_worthAt 108 = .ok (.getfield 122, 3) := by decide +kernel
theorem dX13_worthAt_111 : decode cX13_worthAt 111 = .ok (.iload_n 2, 1) := by decide +kernel
theorem dX13_worthAt_112 : decode cX13_worthAt 112 = .ok (.iconst 1, 1) := by decide +kernel
theorem dX13_worthAt_113 : decode cX13_worthAt 113 = .ok (.isub, 1) := by decide +kernel
theorem dX13_worthAt_114 : decode cX13_worthAt 114 = .ok (.iload 4, 2) := by decide +kernel
theorem dX13_worthAt_116 : decode cX13_worthAt 116 = .ok (.aload_n 0, 1) := by decide +kernel
theorem dX13_worthAt_117 : decode cX13_worthAt 117 = .ok (.getfield 122, 3) := by decide +kernel
theorem dX13_worthAt_120 : decode cX13_worthAt 120 = .ok (.iload_n 2, 1) := by decide +kernel
theorem dX13_worthAt_121 : decode cX13_worthAt 121 = .ok (.iconst 1, 1) := by decide +kernel
theorem dX13_worthAt_122 : decode cX13_worthAt 122 = .ok (.isub, 1) := by decide +kernel
theorem dX13_worthAt_123 : decode cX13_worthAt 123 = .ok (.iaload, 1) := by decide +kernel
theorem dX13_worthAt_124 : decode cX13_worthAt 124 = .ok (.aload_n 0, 1) := by decide +kernel
theorem dX13_worthAt_125 : decode cX13_worthAt 125 = .ok (.getfield 122, 3) := by decide +kernel
theorem dX13_worthAt_128 : decode cX13_worthAt 128 = .ok (.iload_n 2, 1) := by decide +kernel
theorem dX13_worthAt_129 : decode cX13_worthAt 129 = .ok (.iaload, 1) := by decide +kernel
theorem dX13_worthAt_130 : decode cX13_worthAt 130 = .ok (.invokestatic 317, 3) := by decide +kernel
theorem dX13_worthAt_133 : decode cX13_worthAt 133 = .ok (.iastore, 1) := by decide +kernel
theorem dX13_worthAt_134 : decode cX13_worthAt 134 = .ok (.iinc 3 1, 3) := by decide +kernel
theorem dX13_worthAt_137 : decode cX13_worthAt 137 = .ok (.goto (-133), 3) := by decide +kernel
theorem dX13_worthAt_140 : decode cX13_worthAt 140 = .ok (.aload_n 0, 1) := by decide +kernel
theorem dX13_worthAt_141 : decode cX13_worthAt 141 = .ok (.getfield 122, 3) := by decide +kernel
theorem dX13_worthAt_144 : decode cX13_worthAt 144 = .ok (.iconst 0, 1) := by decide +kernel
theorem dX13_worthAt_145 : decode cX13_worthAt 145 = .ok (.iaload, 1) := by decide +kernel
theorem dX13_worthAt_146 : decode cX13_worthAt 146 = .ok (.ireturn, 1) := by decide +kernel
theorem dX13_both_0 : decode cX13_both 0 = .ok (.iload_n 0, 1) := by decide +kernel
theorem dX13_both_1 : decode cX13_both 1 = .ok (.tableswitch 87 4 9 #[39, 43, 47, 51, 62, 73], 39) := by decide +kernel
theorem dX13_both_40 : decode cX13_both 40 = .ok (.iload_n 1, 1) := by decide +kernel
theorem dX13_both_41 : decode cX13_both 41 = .ok (.iload_n 2, 1) := by decide +kernel
theorem dX13_both_42 : decode cX13_both 42 = .ok (.iadd, 1) := by decide +kernel
theorem dX13_both_43 : decode cX13_both 43 = .ok (.ireturn, 1) := by decide +kernel
theorem dX13_both_44 : decode cX13_both 44 = .ok (.iload_n 1, 1) := by decide +kernel
theorem dX13_both_45 : decode cX13_both 45 = .ok (.iload_n 2, 1) := by decide +kernel
theorem dX13_both_46 : decode cX13_both 46 = .ok (.isub, 1) := by decide +kernel
theorem dX13_both_47 : decode cX13_both 47 = .ok (.ireturn, 1) := by decide +kernel
theorem dX13_both_48 : decode cX13_both 48 = .ok (.iload_n 1, 1) := by decide +kernel
theorem dX13_both_49 : decode cX13_both 49 = .ok (.iload_n 2, 1) := by decide +kernel
theorem dX13_both_50 : decode cX13_both 50 = .ok (.imul, 1) := by decide +kernel
theorem dX13_both_51 : decode cX13_both 51 = .ok (.ireturn, 1) := by decide +kernel
theorem dX13_both_52 : decode cX13_both 52 = .ok (.iload_n 1, 1) := by decide +kernel
theorem dX13_both_53 : decode cX13_both 53 = .ok (.iload_n 2, 1) := by decide +kernel
theorem dX13_both_54 : decode cX13_both 54 = .ok (.if_icmp .ge 7, 3) := by decide +kernel
theorem dX13_both_57 : decode cX13_both 57 = .ok (.iconst 1, 1) := by decide +kernel
theorem dX13_both_58 : decode cX13_both 58 = .ok (.goto 4, 3) := by decide +kernel
theorem dX13_both_61 : decode cX13_both 61 = .ok (.iconst 0, 1) := by decide +kernel
theorem dX13_both_62 : decode cX13_both 62 = .ok (.ireturn, 1) := by decide +kernel
theorem dX13_both_63 : decode cX13_both 63 = .ok (.iload_n 1, 1) := by decide +kernel
theorem dX13_both_64 : decode cX13_both 64 = .ok (.iload_n 2, 1) := by decide +kernel
theorem dX13_both_65 : decode cX13_both 65 = .ok (.if_icmp .ne 7, 3) := by decide +kernel
theorem dX13_both_68 : decode cX13_both 68 = .ok (.iconst 1, 1) := by decide +kernel
theorem dX13_both_69 : decode cX13_both 69 = .ok (.goto 4, 3) := by decide +kernel
theorem dX13_both_72 : decode cX13_both 72 = .ok (.iconst 0, 1) := by decide +kernel
theorem dX13_both_73 : decode cX13_both 73 = .ok (.ireturn, 1) := by decide +kernel
theorem dX13_both_74 : decode cX13_both 74 = .ok (.iload_n 1, 1) := by decide +kernel
theorem dX13_both_75 : decode cX13_both 75 = .ok (.ifCond .eq 11, 3) := by decide +kernel
theorem dX13_both_78 : decode cX13_both 78 = .ok (.iload_n 2, 1) := by decide +kernel
theorem dX13_both_79 : decode cX13_both 79 = .ok (.ifCond .eq 7, 3) := by decide +kernel
theorem dX13_both_82 : decode cX13_both 82 = .ok (.iconst 1, 1) := by decide +kernel
theorem dX13_both_83 : decode cX13_both 83 = .ok (.goto 4, 3) := by decide +kernel
theorem dX13_both_86 : decode cX13_both 86 = .ok (.iconst 0, 1) := by decide +kernel
theorem dX13_both_87 : decode cX13_both 87 = .ok (.ireturn, 1) := by decide +kernel
theorem dX13_both_88 : decode cX13_both 88 = .ok (.iload_n 1, 1) := by decide +kernel
theorem dX13_both_89 : decode cX13_both 89 = .ok (.ifCond .ne 7, 3) := by decide +kernel
theorem dX13_both_92 : decode cX13_both 92 = .ok (.iload_n 2, 1) := by decide +kernel
theorem dX13_both_93 : decode cX13_both 93 = .ok (.ifCond .eq 7, 3) := by decide +kernel
theorem dX13_both_96 : decode cX13_both 96 = .ok (.iconst 1, 1) := by decide +kernel
theorem dX13_both_97 : decode cX13_both 97 = .ok (.goto 4, 3) := by decide +kernel
theorem dX13_both_100 : decode cX13_both 100 = .ok (.iconst 0, 1) := by decide +kernel
theorem dX13_both_101 : decode cX13_both 101 = .ok (.ireturn, 1) := by decide +kernel
theorem dX13_copies_0 : decode cX13_copies 0 = .ok (.iconst 0, 1) := by decide +kernel
theorem dX13_copies_1 : decode cX13_copies 1 = .ok (.istore 4, 2) := by decide +kernel
theorem dX13_copies_3 : decode cX13_copies 3 = .ok (.iload 4, 2) := by decide +kernel
theorem dX13_copies_5 : decode cX13_copies 5 = .ok (.iload_n 3, 1) := by decide +kernel
theorem dX13_copies_6 : decode cX13_copies 6 = .ok (.if_icmp .ge 27, 3) := by decide +kernel
theorem dX13_copies_9 : decode cX13_copies 9 = .ok (.aload_n 0, 1) := by decide +kernel
theorem dX13_copies_10 : decode cX13_copies 10 = .ok (.getfield 125, 3) := by decide +kernel
theorem dX13_copies_13 : decode cX13_copies 13 = .ok (.iload_n 2, 1) := by decide +kernel
theorem dX13_copies_14 : decode cX13_copies 14 = .ok (.iload 4, 2) := by decide +kernel
theorem dX13_copies_16 : decode cX13_copies 16 = .ok (.iadd, 1) := by decide +kernel
theorem dX13_copies_17 : decode cX13_copies 17 = .ok (.aload_n 0, 1) := by decide +kernel
theorem dX13_copies_18 : decode cX13_copies 18 = .ok (.getfield 125, 3) := by decide +kernel
theorem dX13_copies_21 : decode cX13_copies 21 = .ok (.iload_n 1, 1) := by decide +kernel
theorem dX13_copies_22 : decode cX13_copies 22 = .ok (.iload 4, 2) := by decide +kernel
theorem dX13_copies_24 : decode cX13_copies 24 = .ok (.iadd, 1) := by decide +kernel
theorem dX13_copies_25 : decode cX13_copies 25 = .ok (.iaload, 1) := by decide +kernel
theorem dX13_copies_26 : decode cX13_copies 26 = .ok (.iastore, 1) := by decide +kernel
theorem dX13_copies_27 : decode cX13_copies 27 = .ok (.iinc 4 1, 3) := by decide +kernel
theorem dX13_copies_30 : decode cX13_copies 30 = .ok (.goto (-27), 3) := by decide +kernel
theorem dX13_copies_33 : decode cX13_copies 33 = .ok (.return_, 1) := by decide +kernel
set_option maxRecDepth 20000 in
theorem ggX13_starts_X13_thieves : GoodIn wsX13_starts wsX13_thieves := goodIn_r _ [7, 2, 12, 13, 14, 15, 16, 17, 18, 19, 20, 21, 22, 23, 24, 25, 26, 27, 28, 29, 30, 31, 32, 33, 34, 35, 36, 37, 38, 39, 40, 41, 42, 43, 44, 45, 46, 47, 48, 49, 50, 51, 52] (by decide +kernel) (by decide +kernel)
set_option maxRecDepth 20000 in
theorem gX13_starts_X13_thieves : GoodIn wsX13_starts (wsV RX13 320 RX13 yX13_thieves wsX13_thieves) := goodIn_app (goodIn_of _ (by decide +kernel)) ggX13_starts_X13_thieves
set_option maxRecDepth 20000 in
theorem ggX13_starts_X13_thiefOf : GoodIn wsX13_starts wsX13_thiefOf := goodIn_r _ [11, 2, 12, 13, 14, 15, 16, 17, 18, 19, 20, 21, 22, 23, 24, 25, 26, 27, 28, 29, 30, 31, 32, 33, 34, 35, 36, 37, 38, 39, 40, 41, 42, 43, 44, 45, 46, 47, 48, 49, 50, 51, 52] (by decide +kernel) (by decide +kernel)
set_option maxRecDepth 20000 in
theorem gX13_starts_X13_thiefOf : GoodIn wsX13_starts (wsV RX13 323 RX13 yX13_thiefOf wsX13_thiefOf) := goodIn_app (goodIn_of _ (by decide +kernel)) ggX13_starts_X13_thiefOf
theorem dX13_starts_0 : decode cX13_starts 0 = .ok (.iconst 0, 1) := by decide +kernel
theorem dX13_starts_1 : decode cX13_starts 1 = .ok (.istore_n 2, 1) := by decide +kernel
theorem dX13_starts_2 : decode cX13_starts 2 = .ok (.iload_n 2, 1) := by decide +kernel
theorem dX13_starts_3 : decode cX13_starts 3 = .ok (.bipush 48, 2) := by decide +kernel
theorem dX13_starts_5 : decode cX13_starts 5 = .ok (.if_icmp .ge 18, 3) := by decide +kernel
theorem dX13_starts_8 : decode cX13_starts 8 = .ok (.aload_n 0, 1) := by decide +kernel
theorem dX13_starts_9 : decode cX13_starts 9 = .ok (.getfield 125, 3) := by decide +kernel
theorem dX13_starts_12 : decode cX13_starts 12 = .ok (.iload_n 1, 1) := by decide +kernel
theorem dX13_starts_13 : decode cX13_starts 13 = .ok (.iload_n 2, 1) := by decide +kernel
theorem dX13_starts_14 : decode cX13_starts 14 = .ok (.iadd, 1) := by decide +kernel
theorem dX13_starts_15 : decode cX13_starts 15 = .ok (.iconst 0, 1) := by decide +kernel
theorem dX13_starts_16 : decode cX13_starts 16 = .ok (.iastore, 1) := by decide +kernel
theorem dX13_starts_17 : decode cX13_starts 17 = .ok (.iinc 2 1, 3) := by decide +kernel
theorem dX13_starts_20 : decode cX13_starts 20 = .ok (.goto (-18), 3) := by decide +kernel
theorem dX13_starts_23 : decode cX13_starts 23 = .ok (.aload_n 0, 1) := by decide +kernel
theorem dX13_starts_24 : decode cX13_starts 24 = .ok (.getfield 125, 3) := by decide +kernel
theorem dX13_starts_27 : decode cX13_starts 27 = .ok (.iload_n 1, 1) := by decide +kernel
theorem dX13_starts_28 : decode cX13_starts 28 = .ok (.iconst 2, 1) := by decide +kernel
theorem dX13_starts_29 : decode cX13_starts 29 = .ok (.iadd, 1) := by decide +kernel
theorem dX13_starts_30 : decode cX13_starts 30 = .ok (.aload_n 0, 1) := by decide +kernel
theorem dX13_starts_31 : decode cX13_starts 31 = .ok (.getfield 95, 3) := by decide +kernel
theorem dX13_starts_34 : decode cX13_starts 34 = .ok (.iconst 3, 1) := by decide +kernel
theorem dX13_starts_35 : decode cX13_starts 35 = .ok (.iaload, 1) := by decide +kernel
theorem dX13_starts_36 : decode cX13_starts 36 = .ok (.iastore, 1) := by decide +kernel
theorem dX13_starts_37 : decode cX13_starts 37 = .ok (.iconst 0, 1) := by decide +kernel
theorem dX13_starts_38 : decode cX13_starts 38 = .ok (.istore_n 2, 1) := by decide +kernel
theorem dX13_starts_39 : decode cX13_starts 39 = .ok (.iload_n 2, 1) := by decide +kernel
theorem dX13_starts_40 : decode cX13_starts 40 = .ok (.aload_n 0, 1) := by decide +kernel
theorem dX13_starts_41 : decode cX13_starts 41 = .ok (.getfield 95, 3) := by decide +kernel
theorem dX13_starts_44 : decode cX13_starts 44 = .ok (.iconst 3, 1) := by decide +kernel
theorem dX13_starts_45 : decode cX13_starts 45 = .ok (.iaload, 1) := by decide +kernel
theorem dX13_starts_46 : decode cX13_starts 46 = .ok (.if_icmp .ge 113, 3) := by decide +kernel
theorem dX13_starts_49 : decode cX13_starts 49 = .ok (.bipush 30, 2) := by decide +kernel
theorem dX13_starts_51 : decode cX13_starts 51 = .ok (.iconst 4, 1) := by decide +kernel
theorem dX13_starts_52 : decode cX13_starts 52 = .ok (.iload_n 2, 1) := by decide +kernel
theorem dX13_starts_53 : decode cX13_starts 53 = .ok (.imul, 1) := by decide +kernel
theorem dX13_starts_54 : decode cX13_starts 54 = .ok (.iadd, 1) := by decide +kernel
theorem dX13_starts_55 : decode cX13_starts 55 = .ok (.istore_n 3, 1) := by decide +kernel
theorem dX13_starts_56 : decode cX13_starts 56 = .ok (.aload_n 0, 1) := by decide +kernel
theorem dX13_starts_57 : decode cX13_starts 57 = .ok (.getfield 125, 3) := by decide +kernel
theorem dX13_starts_60 : decode cX13_starts 60 = .ok (.iload_n 1, 1) := by decide +kernel
theorem dX13_starts_61 : decode cX13_starts 61 = .ok (.bipush 27, 2) := by decide +kernel
theorem dX13_starts_63 : decode cX13_starts 63 = .ok (.iadd, 1) := by decide +kernel
theorem dX13_starts_64 : decode cX13_starts 64 = .ok (.iload_n 2, 1) := by decide +kernel
theorem dX13_starts_65 : decode cX13_starts 65 = .ok (.iadd, 1) := by decide +kernel
theorem dX13_starts_66 : decode cX13_starts 66 = .ok (.aload_n 0, 1) := by decide +kernel
theorem dX13_starts_67 : decode cX13_starts 67 = .ok (.getfield 95, 3) := by decide +kernel
theorem dX13_starts_70 : decode cX13_starts 70 = .ok (.iload_n 3, 1) := by decide +kernel
theorem dX13_starts_71 : decode cX13_starts 71 = .ok (.iaload, 1) := by decide +kernel
theorem dX13_starts_72 : decode cX13_starts 72 = .ok (.iastore, 1) := by decide +kernel
theorem dX13_starts_73 : decode cX13_starts 73 = .ok (.aload_n 0, 1) := by decide +kernel
theorem dX13_starts_74 : decode cX13_starts 74 = .ok (.getfield 125, 3) := by decide +kernel
theorem dX13_starts_77 : decode cX13_starts 77 = .ok (.iload_n 1, 1) := by decide +kernel
theorem dX13_starts_78 : decode cX13_starts 78 = .ok (.iconst 3, 1) := by decide +kernel
theorem dX13_starts_79 : decode cX13_starts 79 = .ok (.iadd, 1) := by decide +kernel
theorem dX13_starts_80 : decode cX13_starts 80 = .ok (.iload_n 2, 1) := by decide +kernel
theorem dX13_starts_81 : decode cX13_starts 81 = .ok (.iadd, 1) := by decide +kernel
theorem dX13_starts_82 : decode cX13_starts 82 = .ok (.iload_n 2, 1) := by decide +kernel
theorem dX13_starts_83 : decode cX13_starts 83 = .ok (.ifCond .ne 7, 3) := by decide +kernel
theorem dX13_starts_86 : decode cX13_starts 86 = .ok (.iconst 0, 1) := by decide +kernel
theorem dX13_starts_87 : decode cX13_starts 87 = .ok (.goto 27, 3) := by decide +kernel
theorem dX13_starts_90 : decode cX13_starts 90 = .ok (.aload_n 0, 1) := by decide +kernel
theorem dX13_starts_91 : decode cX13_starts 91 = .ok (.getfield 125, 3) := by decide +kernel
theorem dX13_starts_94 : decode cX13_starts 94 = .ok (.iload_n 1, 1) := by decide +kernel
theorem dX13_starts_95 : decode cX13_starts 95 = .ok (.iconst 3, 1) := by decide +kernel
theorem dX13_starts_96 : decode cX13_starts 96 = .ok (.iadd, 1) := by decide +kernel
theorem dX13_starts_97 : decode cX13_starts 97 = .ok (.aload_n 0, 1) := by decide +kernel
theorem dX13_starts_98 : decode cX13_starts 98 = .ok (.getfield 95, 3) := by decide +kernel
theorem dX13_starts_101 : decode cX13_starts 101 = .ok (.iload_n 3, 1) := by decide +kernel
theorem dX13_starts_102 : decode cX13_starts 102 = .ok (.iaload, 1) := by decide +kernel
theorem dX13_starts_103 : decode cX13_starts 103 = .ok (.iadd, 1) := by decide +kernel
theorem dX13_starts_104 : decode cX13_starts 104 = .ok (.iaload, 1) := by decide +kernel
theorem dX13_starts_105 : decode cX13_starts 105 = .ok (.aload_n 0, 1) := by decide +kernel
theorem dX13_starts_106 : decode cX13_starts 106 = .ok (.getfield 95, 3) := by decide +kernel
theorem dX13_starts_109 : decode cX13_starts 109 = .ok (.iload_n 3, 1) := by decide +kernel
theorem dX13_starts_110 : decode cX13_starts 110 = .ok (.iconst 1, 1) := by decide +kernel
theorem dX13_starts_111 : decode cX13_starts 111 = .ok (.iadd, 1) := by decide +kernel
theorem dX13_starts_112 : decode cX13_starts 112 = .ok (.iaload, 1) := by decide +kernel
theorem dX13_starts_113 : decode cX13_starts 113 = .ok (.ixor, 1) := by decide +kernel
theorem dX13_starts_114 : decode cX13_starts 114 = .ok (.iastore, 1) := by decide +kernel
theorem dX13_starts_115 : decode cX13_starts 115 = .ok (.aload_n 0, 1) := by decide +kernel
theorem dX13_starts_116 : decode cX13_starts 116 = .ok (.getfield 125, 3) := by decide +kernel
theorem dX13_starts_119 : decode cX13_starts 119 = .ok (.iload_n 1, 1) := by decide +kernel
theorem dX13_starts_120 : decode cX13_starts 120 = .ok (.bipush 35, 2) := by decide +kernel
theorem dX13_starts_122 : decode cX13_starts 122 = .ok (.iadd, 1) := by decide +kernel
theorem dX13_starts_123 : decode cX13_starts 123 = .ok (.iload_n 2, 1) := by decide +kernel
theorem dX13_starts_124 : decode cX13_starts 124 = .ok (.iadd, 1) := by decide +kernel
theorem dX13_starts_125 : decode cX13_starts 125 = .ok (.aload_n 0, 1) := by decide +kernel
theorem dX13_starts_126 : decode cX13_starts 126 = .ok (.getfield 95, 3) := by decide +kernel
theorem dX13_starts_129 : decode cX13_starts 129 = .ok (.iload_n 3, 1) := by decide +kernel
theorem dX13_starts_130 : decode cX13_starts 130 = .ok (.iconst 2, 1) := by decide +kernel
theorem dX13_starts_131 : decode cX13_starts 131 = .ok (.iadd, 1) := by decide +kernel
theorem dX13_starts_132 : decode cX13_starts 132 = .ok (.iaload, 1) := by decide +kernel
theorem dX13_starts_133 : decode cX13_starts 133 = .ok (.iastore, 1) := by decide +kernel
theorem dX13_starts_134 : decode cX13_starts 134 = .ok (.aload_n 0, 1) := by decide +kernel
theorem dX13_starts_135 : decode cX13_starts 135 = .ok (.getfield 125, 3) := by decide +kernel
theorem dX13_starts_138 : decode cX13_starts 138 = .ok (.iload_n 1, 1) := by decide +kernel
theorem dX13_starts_139 : decode cX13_starts 139 = .ok (.bipush 11, 2) := by decide +kernel
theorem dX13_starts_141 : decode cX13_starts 141 = .ok (.iadd, 1) := by decide +kernel
theorem dX13_starts_142 : decode cX13_starts 142 = .ok (.iload_n 2, 1) := by decide +kernel
theorem dX13_starts_143 : decode cX13_starts 143 = .ok (.iadd, 1) := by decide +kernel
theorem dX13_starts_144 : decode cX13_starts 144 = .ok (.aload_n 0, 1) := by decide +kernel
theorem dX13_starts_145 : decode cX13_starts 145 = .ok (.getfield 95, 3) := by decide +kernel
theorem dX13_starts_148 : decode cX13_starts 148 = .ok (.iload_n 3, 1) := by decide +kernel
theorem dX13_starts_149 : decode cX13_starts 149 = .ok (.iconst 3, 1) := by decide +kernel
theorem dX13_starts_150 : decode cX13_starts 150 = .ok (.iadd, 1) := by decide +kernel
theorem dX13_starts_151 : decode cX13_starts 151 = .ok (.iaload, 1) := by decide +kernel
theorem dX13_starts_152 : decode cX13_starts 152 = .ok (.iastore, 1) := by decide +kernel
theorem dX13_starts_153 : decode cX13_starts 153 = .ok (.iinc 2 1, 3) := by decide +kernel
theorem dX13_starts_156 : decode cX13_starts 156 = .ok (.goto (-117), 3) := by decide +kernel
theorem dX13_starts_159 : decode cX13_starts 159 = .ok (.iconst 0, 1) := by decide +kernel
theorem dX13_starts_160 : decode cX13_starts 160 = .ok (.istore_n 2, 1) := by decide +kernel
theorem dX13_starts_161 : decode cX13_starts 161 = .ok (.iload_n 2, 1) := by decide +kernel
theorem dX13_starts_162 : decode cX13_starts 162 = .ok (.aload_n 0, 1) := by decide +kernel
theorem dX13_starts_163 : decode cX13_starts 163 = .ok (.invokevirtual 320, 3) := by decide +kernel
theorem dX13_starts_166 : decode cX13_starts 166 = .ok (.if_icmp .ge 26, 3) := by decide +kernel
theorem dX13_starts_169 : decode cX13_starts 169 = .ok (.aload_n 0, 1) := by decide +kernel
theorem dX13_starts_170 : decode cX13_starts 170 = .ok (.getfield 125, 3) := by decide +kernel
theorem dX13_starts_173 : decode cX13_starts 173 = .ok (.iload_n 1, 1) := by decide +kernel
theorem dX13_starts_174 : decode cX13_starts 174 = .ok (.bipush 43, 2) := by decide +kernel
theorem dX13_starts_176 : decode cX13_starts 176 = .ok (.iadd, 1) := by decide +kernel
theorem dX13_starts_177 : decode cX13_starts 177 = .ok (.iload_n 2, 1) := by decide +kernel
theorem dX13_starts_178 : decode cX13_starts 178 = .ok (.iadd, 1) := by decide +kernel
theorem dX13_starts_179 : decode cX13_starts 179 = .ok (.aload_n 0, 1) := by decide +kernel
theorem dX13_starts_180 : decode cX13_starts 180 = .ok (.iload_n 2, 1) := by decide +kernel
theorem dX13_starts_181 : decode cX13_starts 181 = .ok (.iconst 2, 1) := by decide +kernel
theorem dX13_starts_182 : decode cX13_starts 182 = .ok (.invokevirtual 323, 3) := by decide +kernel
theorem dX13_starts_185 : decode cX13_starts 185 = .ok (.iastore, 1) := by decide +kernel
theorem dX13_starts_186 : decode cX13_starts 186 = .ok (.iinc 2 1, 3) := by decide +kernel
theorem dX13_starts_189 : decode cX13_starts 189 = .ok (.goto (-28), 3) := by decide +kernel
theorem dX13_starts_192 : decode cX13_starts 192 = .ok (.return_, 1) := by decide +kernel
set_option maxRecDepth 20000 in
theorem ggX13_begins_X13_starts : GoodIn wsX13_begins wsX13_starts := goodIn_r _ [9, 1, 10, 11, 12, 13, 8, 14, 15, 16, 17, 18, 19, 20, 21, 22, 23, 24, 25, 26, 27, 28, 29, 30, 31, 32, 33, 34, 35, 36, 37, 38, 39, 40, 41, 42, 43, 44, 45, 46, 47, 48, 49, 50, 51, 52, 53, 54, 55, 56, 57, 58, 59] (by decide +kernel) (by decide +kernel)
set_option maxRecDepth 20000 in
theorem gX13_begins_X13_starts : GoodIn wsX13_begins (wsV RX13 326 RX13 yX13_starts wsX13_starts) := goodIn_app (goodIn_of _ (by decide +kernel)) ggX13_begins_X13_starts
theorem dX13_begins_0 : decode cX13_begins 0 = .ok (.aload_n 0, 1) := by decide +kernel
theorem dX13_begins_1 : decode cX13_begins 1 = .ok (.iconst 0, 1) := by decide +kernel
theorem dX13_begins_2 : decode cX13_begins 2 = .ok (.invokevirtual 326, 3) := by decide +kernel
theorem dX13_begins_5 : decode cX13_begins 5 = .ok (.aload_n 0, 1) := by decide +kernel
theorem dX13_begins_6 : decode cX13_begins 6 = .ok (.getfield 125, 3) := by decide +kernel
theorem dX13_begins_9 : decode cX13_begins 9 = .ok (.bipush 48, 2) := by decide +kernel
theorem dX13_begins_11 : decode cX13_begins 11 = .ok (.iconst 0, 1) := by decide +kernel
theorem dX13_begins_12 : decode cX13_begins 12 = .ok (.iastore, 1) := by decide +kernel
theorem dX13_begins_13 : decode cX13_begins 13 = .ok (.aload_n 0, 1) := by decide +kernel
theorem dX13_begins_14 : decode cX13_begins 14 = .ok (.getfield 116, 3) := by decide +kernel
theorem dX13_begins_17 : decode cX13_begins 17 = .ok (.iconst 0, 1) := by decide +kernel
theorem dX13_begins_18 : decode cX13_begins 18 = .ok (.iconst 0, 1) := by decide +kernel
theorem dX13_begins_19 : decode cX13_begins 19 = .ok (.iastore, 1) := by decide +kernel
theorem dX13_begins_20 : decode cX13_begins 20 = .ok (.aload_n 0, 1) := by decide +kernel
theorem dX13_begins_21 : decode cX13_begins 21 = .ok (.iconst 0, 1) := by decide +kernel
theorem dX13_begins_22 : decode cX13_begins 22 = .ok (.putfield 329, 3) := by decide +kernel
theorem dX13_begins_25 : decode cX13_begins 25 = .ok (.iconst 0, 1) := by decide +kernel
theorem dX13_begins_26 : decode cX13_begins 26 = .ok (.istore_n 1, 1) := by decide +kernel
theorem dX13_begins_27 : decode cX13_begins 27 = .ok (.iload_n 1, 1) := by decide +kernel
theorem dX13_begins_28 : decode cX13_begins 28 = .ok (.iconst 4, 1) := by decide +kernel
theorem dX13_begins_29 : decode cX13_begins 29 = .ok (.if_icmp .ge 16, 3) := by decide +kernel
theorem dX13_begins_32 : decode cX13_begins 32 = .ok (.aload_n 0, 1) := by decide +kernel
theorem dX13_begins_33 : decode cX13_begins 33 = .ok (.getfield 128, 3) := by decide +kernel
theorem dX13_begins_36 : decode cX13_begins 36 = .ok (.iload_n 1, 1) := by decide +kernel
theorem dX13_begins_37 : decode cX13_begins 37 = .ok (.iconst 0, 1) := by decide +kernel
theorem dX13_begins_38 : decode cX13_begins 38 = .ok (.bastore, 1) := by decide +kernel
theorem dX13_begins_39 : decode cX13_begins 39 = .ok (.iinc 1 1, 3) := by decide +kernel
theorem dX13_begins_42 : decode cX13_begins 42 = .ok (.goto (-15), 3) := by decide +kernel
theorem dX13_begins_45 : decode cX13_begins 45 = .ok (.return_, 1) := by decide +kernel
set_option maxRecDepth 20000 in
theorem ggX13_keeps_X13_copies : GoodIn wsX13_keeps wsX13_copies := goodIn_r _ [6, 7, 8, 9, 10, 11, 12, 13, 14, 15, 16, 17, 18, 19, 20, 21, 22, 23, 24, 25, 26, 27, 28, 29, 30, 31, 32, 33, 34, 35, 36, 37, 38, 39, 40, 41, 42, 43, 44, 45, 46, 47, 48] (by decide +kernel) (by decide +kernel)
set_option maxRecDepth 20000 in
theorem gX13_keeps_X13_copies : GoodIn wsX13_keeps (wsV RX13 332 RX13 yX13_copies wsX13_copies) := goodIn_app (goodIn_of _ (by decide +kernel)) ggX13_keeps_X13_copies
theorem dX13_keeps_0 : decode cX13_keeps 0 = .ok (.aload_n 0, 1) := by decide +kernel
theorem dX13_keeps_1 : decode cX13_keeps 1 = .ok (.getfield 329, 3) := by decide +kernel
theorem dX13_keeps_4 : decode cX13_keeps 4 = .ok (.bipush 16, 2) := by decide +kernel
theorem dX13_keeps_6 : decode cX13_keeps 6 = .ok (.if_icmp .ne 47, 3) := by decide +kernel
theorem dX13_keeps_9 : decode cX13_keeps 9 = .ok (.iconst 1, 1) := by decide +kernel
theorem dX13_keeps_10 : decode cX13_keeps 10 = .ok (.istore_n 1, 1) := by decide +kernel
theorem dX13_keeps_11 : decode cX13_keeps 11 = .ok (.iload_n 1, 1) := by decide +kernel
theorem dX13_keeps_12 : decode cX13_keeps 12 = .ok (.bipush 16, 2) := by decide +kernel
theorem dX13_keeps_14 : decode cX13_keeps 14 = .ok (.if_icmp .ge 29, 3) := by decide +kernel
theorem dX13_keeps_17 : decode cX13_keeps 17 = .ok (.aload_n 0, 1) := by decide +kernel
theorem dX13_keeps_18 : decode cX13_keeps 18 = .ok (.bipush 66, 2) := by decide +kernel
theorem dX13_keeps_20 : decode cX13_keeps 20 = .ok (.iconst 5, 1) := by decide +kernel
theorem dX13_keeps_21 : decode cX13_keeps 21 = .ok (.iload_n 1, 1) := by decide +kernel
theorem dX13_keeps_22 : decode cX13_keeps 22 = .ok (.iadd, 1) := by decide +kernel
theorem dX13_keeps_23 : decode cX13_keeps 23 = .ok (.imul, 1) := by decide +kernel
theorem dX13_keeps_24 : decode cX13_keeps 24 = .ok (.bipush 66, 2) := by decide +kernel
theorem dX13_keeps_26 : decode cX13_keeps 26 = .ok (.iconst 5, 1) := by decide +kernel
theorem dX13_keeps_27 : decode cX13_keeps 27 = .ok (.iload_n 1, 1) := by decide +kernel
theorem dX13_keeps_28 : decode cX13_keeps 28 = .ok (.iadd, 1) := by decide +kernel
theorem dX13_keeps_29 : decode cX13_keeps 29 = .ok (.iconst 1, 1) := by decide +kernel
theorem dX13_keeps_30 : decode cX13_keeps 30 = .ok (.isub, 1) := by decide +kernel
theorem dX13_keeps_31 : decode cX13_keeps 31 = .ok (.imul, 1) := by decide +kernel
theorem dX13_keeps_32 : decode cX13_keeps 32 = .ok (.bipush 48, 2) := by decide +kernel
theorem dX13_keeps_34 : decode cX13_keeps 34 = .ok (.invokevirtual 332, 3) := by decide +kernel
theorem dX13_keeps_37 : decode cX13_keeps 37 = .ok (.iinc 1 1, 3) := by decide +kernel
theorem dX13_keeps_40 : decode cX13_keeps 40 = .ok (.goto (-29), 3) := by decide +kernel
theorem dX13_keeps_43 : decode cX13_keeps 43 = .ok (.aload_n 0, 1) := by decide +kernel
theorem dX13_keeps_44 : decode cX13_keeps 44 = .ok (.dup, 1) := by decide +kernel
theorem dX13_keeps_45 : decode cX13_keeps 45 = .ok (.getfield 329, 3) := by decide +kernel
theorem dX13_keeps_48 : decode cX13_keeps 48 = .ok (.iconst 1, 1) := by decide +kernel
theorem dX13_keeps_49 : decode cX13_keeps 49 = .ok (.isub, 1) := by decide +kernel
theorem dX13_keeps_50 : decode cX13_keeps 50 = .ok (.putfield 329, 3) := by decide +kernel
theorem dX13_keeps_53 : decode cX13_keeps 53 = .ok (.aload_n 0, 1) := by decide +kernel
theorem dX13_keeps_54 : decode cX13_keeps 54 = .ok (.iconst 0, 1) := by decide +kernel
theorem dX13_keeps_55 : decode cX13_keeps 55 = .ok (.bipush 66, 2) := by decide +kernel
theorem dX13_keeps_57 : decode cX13_keeps 57 = .ok (.iconst 5, 1) := by decide +kernel
theorem dX13_keeps_58 : decode cX13_keeps 58 = .ok (.aload_n 0, 1) := by decide +kernel
theorem dX13_keeps_59 : decode cX13_keeps 59 = .ok (.getfield 329, 3) := by decide +kernel
theorem dX13_keeps_62 : decode cX13_keeps 62 = .ok (.iadd, 1) := by decide +kernel
theorem dX13_keeps_63 : decode cX13_keeps 63 = .ok (.imul, 1) := by decide +kernel
theorem dX13_keeps_64 : decode cX13_keeps 64 = .ok (.bipush 48, 2) := by decide +kernel
theorem dX13_keeps_66 : decode cX13_keeps 66 = .ok (.invokevirtual 332, 3) := by decide +kernel
theorem dX13_keeps_69 : decode cX13_keeps 69 = .ok (.aload_n 0, 1) := by decide +kernel
theorem dX13_keeps_70 : decode cX13_keeps 70 = .ok (.dup, 1) := by decide +kernel
theorem dX13_keeps_71 : decode cX13_keeps 71 = .ok (.getfield 329, 3) := by decide +kernel
theorem dX13_keeps_74 : decode cX13_keeps 74 = .ok (.iconst 1, 1) := by decide +kernel
theorem dX13_keeps_75 : decode cX13_keeps 75 = .ok (.iadd, 1) := by decide +kernel
theorem dX13_keeps_76 : decode cX13_keeps 76 = .ok (.putfield 329, 3) := by decide +kernel
theorem dX13_keeps_79 : decode cX13_keeps 79 = .ok (.return_, 1) := by decide +kernel
theorem dX13_spots_0 : decode cX13_spots 0 = .ok (.aload_n 0, 1) := by decide +kernel
theorem dX13_spots_1 : decode cX13_spots 1 = .ok (.getfield 95, 3) := by decide +kernel
theorem dX13_spots_4 : decode cX13_spots 4 = .ok (.iconst 0, 1) := by decide +kernel
theorem dX13_spots_5 : decode cX13_spots 5 = .ok (.iaload, 1) := by decide +kernel
theorem dX13_spots_6 : decode cX13_spots 6 = .ok (.ireturn, 1) := by decide +kernel
theorem dX13_thieves_0 : decode cX13_thieves 0 = .ok (.aload_n 0, 1) := by decide +kernel
theorem dX13_thieves_1 : decode cX13_thieves 1 = .ok (.getfield 95, 3) := by decide +kernel
theorem dX13_thieves_4 : decode cX13_thieves 4 = .ok (.iconst 1, 1) := by decide +kernel
theorem dX13_thieves_5 : decode cX13_thieves 5 = .ok (.iaload, 1) := by decide +kernel
theorem dX13_thieves_6 : decode cX13_thieves 6 = .ok (.ireturn, 1) := by decide +kernel
theorem dX13_experts_0 : decode cX13_experts 0 = .ok (.aload_n 0, 1) := by decide +kernel
theorem dX13_experts_1 : decode cX13_experts 1 = .ok (.getfield 95, 3) := by decide +kernel
theorem dX13_experts_4 : decode cX13_experts 4 = .ok (.iconst 2, 1) := by decide +kernel
theorem dX13_experts_5 : decode cX13_experts 5 = .ok (.iaload, 1) := by decide +kernel
theorem dX13_experts_6 : decode cX13_experts 6 = .ok (.ireturn, 1) := by decide +kernel
theorem dX13_thiefOf_0 : decode cX13_thiefOf 0 = .ok (.aload_n 0, 1) := by decide +kernel
theorem dX13_thiefOf_1 : decode cX13_thiefOf 1 = .ok (.getfield 95, 3) := by decide +kernel
theorem dX13_thiefOf_4 : decode cX13_thiefOf 4 = .ok (.bipush 6, 2) := by decide +kernel
theorem dX13_thiefOf_6 : decode cX13_thiefOf 6 = .ok (.iconst 4, 1) := by decide +kernel
theorem dX13_thiefOf_7 : decode cX13_thiefOf 7 = .ok (.iload_n 1, 1) := by decide +kernel
theorem dX13_thiefOf_8 : decode cX13_thiefOf 8 = .ok (.imul, 1) := by decide +kernel
theorem dX13_thiefOf_9 : decode cX13_thiefOf 9 = .ok (.iadd, 1) := by decide +kernel
theorem dX13_thiefOf_10 : decode cX13_thiefOf 10 = .ok (.iload_n 2, 1) := by decide +kernel
theorem dX13_thiefOf_11 : decode cX13_thiefOf 11 = .ok (.iadd, 1) := by decide +kernel
theorem dX13_thiefOf_12 : decode cX13_thiefOf 12 = .ok (.iaload, 1) := by decide +kernel
theorem dX13_thiefOf_13 : decode cX13_thiefOf 13 = .ok (.ireturn, 1) := by decide +kernel
set_option maxRecDepth 20000 in
theorem ggX13_isThief_X13_thieves : GoodIn wsX13_isThief wsX13_thieves := goodIn_r _ [5, 6, 7, 8, 9, 10, 11, 12, 13, 14, 15, 16, 17, 18, 19, 20, 21, 22, 23, 24, 25, 26, 27, 28, 29, 30, 31, 32, 33, 34, 35, 36, 37, 38, 39, 40, 41, 42, 43, 44, 45, 46, 47] (by decide +kernel) (by decide +kernel)
set_option maxRecDepth 20000 in
theorem gX13_isThief_X13_thieves : GoodIn wsX13_isThief (wsV RX13 320 RX13 yX13_thieves wsX13_thieves) := goodIn_app (goodIn_of _ (by decide +kernel)) ggX13_isThief_X13_thieves
theorem dX13_isThief_0 : decode cX13_isThief 0 = .ok (.iload_n 1, 1) := by decide +kernel
theorem dX13_isThief_1 : decode cX13_isThief 1 = .ok (.ifCond .lt 15, 3) := by decide +kernel
theorem dX13_isThief_4 : decode cX13_isThief 4 = .ok (.iload_n 1, 1) := by decide +kernel
theorem dX13_isThief_5 : decode cX13_isThief 5 = .ok (.aload_n 0, 1) := by decide +kernel
theorem dX13_isThief_6 : decode cX13_isThief 6 = .ok (.invokevirtual 320, 3) := by decide +kernel
theorem dX13_isThief_9 : decode cX13_isThief 9 = .ok (.if_icmp .ge 7, 3) := by decide +kernel
theorem dX13_isThief_12 : decode cX13_isThief 12 = .ok (.iconst 1, 1) := by decide +kernel
theorem dX13_isThief_13 : decode cX13_isThief 13 = .ok (.goto 4, 3) := by decide +kernel
theorem dX13_isThief_16 : decode cX13_isThief 16 = .ok (.iconst 0, 1) := by decide +kernel
theorem dX13_isThief_17 : decode cX13_isThief 17 = .ok (.ireturn, 1) := by decide +kernel
set_option maxRecDepth 20000 in
theorem ggX13_isSpot_X13_spots : GoodIn wsX13_isSpot wsX13_spots := goodIn_r _ [5, 6, 7, 8, 9, 10, 11, 12, 13, 14, 15, 16, 17, 18, 19, 20, 21, 22, 23, 24, 25, 26, 27, 28, 29, 30, 31, 32, 33, 34, 35, 36, 37, 38, 39, 40, 41, 42, 43, 44, 45, 46, 47] (by decide +kernel) (by decide +kernel)
set_option maxRecDepth 20000 in
theorem gX13_isSpot_X13_spots : GoodIn wsX13_isSpot (wsV RX13 336 RX13 yX13_spots wsX13_spots) := goodIn_app (goodIn_of _ (by decide +kernel)) ggX13_isSpot_X13_spots
theorem dX13_isSpot_0 : decode cX13_isSpot 0 = .ok (.iload_n 1, 1) := by decide +kernel
theorem dX13_isSpot_1 : decode cX13_isSpot 1 = .ok (.ifCond .lt 15, 3) := by decide +kernel
theorem dX13_isSpot_4 : decode cX13_isSpot 4 = .ok (.iload_n 1, 1) := by decide +kernel
theorem dX13_isSpot_5 : decode cX13_isSpot 5 = .ok (.aload_n 0, 1) := by decide +kernel
theorem dX13_isSpot_6 : decode cX13_isSpot 6 = .ok (.invokevirtual 336, 3) := by decide +kernel
theorem dX13_isSpot_9 : decode cX13_isSpot 9 = .ok (.if_icmp .ge 7, 3) := by decide +kernel
theorem dX13_isSpot_12 : decode cX13_isSpot 12 = .ok (.iconst 1, 1) := by decide +kernel
theorem dX13_isSpot_13 : decode cX13_isSpot 13 = .ok (.goto 4, 3) := by decide +kernel
theorem dX13_isSpot_16 : decode cX13_isSpot 16 = .ok (.iconst 0, 1) := by decide +kernel
theorem dX13_isSpot_17 : decode cX13_isSpot 17 = .ok (.ireturn, 1) := by decide +kernel
theorem dX13_isPiece_0 : decode cX13_isPiece 0 = .ok (.iload_n 2, 1) := by decide +kernel
theorem dX13_isPiece_1 : decode cX13_isPiece 1 = .ok (.ifCond .lt 19, 3) := by decide +kernel
theorem dX13_isPiece_4 : decode cX13_isPiece 4 = .ok (.iload_n 2, 1) := by decide +kernel
theorem dX13_isPiece_5 : decode cX13_isPiece 5 = .ok (.aload_n 0, 1) := by decide +kernel
theorem dX13_isPiece_6 : decode cX13_isPiece 6 = .ok (.getfield 125, 3) := by decide +kernel
theorem dX13_isPiece_9 : decode cX13_isPiece 9 = .ok (.iload_n 1, 1) := by decide +kernel
theorem dX13_isPiece_10 : decode cX13_isPiece 10 = .ok (.iconst 2, 1) := by decide +kernel
theorem dX13_isPiece_11 : decode cX13_isPiece 11 = .ok (.iadd, 1) := by decide +kernel
theorem dX13_isPiece_12 : decode cX13_isPiece 12 = .ok (.iaload, 1) := by decide +kernel
theorem dX13_isPiece_13 : decode cX13_isPiece 13 = .ok (.if_icmp .ge 7, 3) := by decide +kernel
theorem dX13_isPiece_16 : decode cX13_isPiece 16 = .ok (.iconst 1, 1) := by decide +kernel
theorem dX13_isPiece_17 : decode cX13_isPiece 17 = .ok (.goto 4, 3) := by decide +kernel
theorem dX13_isPiece_20 : decode cX13_isPiece 20 = .ok (.iconst 0, 1) := by decide +kernel
theorem dX13_isPiece_21 : decode cX13_isPiece 21 = .ok (.ireturn, 1) := by decide +kernel
theorem dX13_bits_0 : decode cX13_bits 0 = .ok (.iconst 0, 1) := by decide +kernel
theorem dX13_bits_1 : decode cX13_bits 1 = .ok (.istore_n 1, 1) := by decide +kernel
theorem dX13_bits_2 : decode cX13_bits 2 = .ok (.iconst 0, 1) := by decide +kernel
theorem dX13_bits_3 : decode cX13_bits 3 = .ok (.istore_n 2, 1) := by decide +kernel
theorem dX13_bits_4 : decode cX13_bits 4 = .ok (.iload_n 2, 1) := by decide +kernel
theorem dX13_bits_5 : decode cX13_bits 5 = .ok (.bipush 30, 2) := by decide +kernel
theorem dX13_bits_7 : decode cX13_bits 7 = .ok (.if_icmp .ge 17, 3) := by decide +kernel
theorem dX13_bits_10 : decode cX13_bits 10 = .ok (.iload_n 1, 1) := by decide +kernel
theorem dX13_bits_11 : decode cX13_bits 11 = .ok (.iload_n 0, 1) := by decide +kernel
theorem dX13_bits_12 : decode cX13_bits 12 = .ok (.iload_n 2, 1) := by decide +kernel
theorem dX13_bits_13 : decode cX13_bits 13 = .ok (.ishr, 1) := by decide +kernel
theorem dX13_bits_14 : decode cX13_bits 14 = .ok (.iconst 1, 1) := by decide +kernel
theorem dX13_bits_15 : decode cX13_bits 15 = .ok (.iand, 1) := by decide +kernel
theorem dX13_bits_16 : decode cX13_bits 16 = .ok (.iadd, 1) := by decide +kernel
theorem dX13_bits_17 : decode cX13_bits 17 = .ok (.istore_n 1, 1) := by decide +kernel
theorem dX13_bits_18 : decode cX13_bits 18 = .ok (.iinc 2 1, 3) := by decide +kernel
theorem dX13_bits_21 : decode cX13_bits 21 = .ok (.goto (-17), 3) := by decide +kernel
theorem dX13_bits_24 : decode cX13_bits 24 = .ok (.iload_n 1, 1) := by decide +kernel
theorem dX13_bits_25 : decode cX13_bits 25 = .ok (.ireturn, 1) := by decide +kernel
theorem dX13_hanging_0 : decode cX13_hanging 0 = .ok (.iconst (-1), 1) := by decide +kernel
theorem dX13_hanging_1 : decode cX13_hanging 1 = .ok (.istore_n 2, 1) := by decide +kernel
theorem dX13_hanging_2 : decode cX13_hanging 2 = .ok (.iconst 0, 1) := by decide +kernel
theorem dX13_hanging_3 : decode cX13_hanging 3 = .ok (.istore_n 3, 1) := by decide +kernel
theorem dX13_hanging_4 : decode cX13_hanging 4 = .ok (.iload_n 3, 1) := by decide +kernel
theorem dX13_hanging_5 : decode cX13_hanging 5 = .ok (.aload_n 0, 1) := by decide +kernel
theorem dX13_hanging_6 : decode cX13_hanging 6 = .ok (.getfield 125, 3) := by decide +kernel
theorem dX13_hanging_9 : decode cX13_hanging 9 = .ok (.iload_n 1, 1) := by decide +kernel
theorem dX13_hanging_10 : decode cX13_hanging 10 = .ok (.iconst 2, 1) := by decide +kernel
theorem dX13_hanging_11 : decode cX13_hanging 11 = .ok (.iadd, 1) := by decide +kernel
theorem dX13_hanging_12 : decode cX13_hanging 12 = .ok (.iaload, 1) := by decide +kernel
theorem dX13_hanging_13 : decode cX13_hanging 13 = .ok (.if_icmp .ge 30, 3) := by decide +kernel
theorem dX13_hanging_16 : decode cX13_hanging 16 = .ok (.aload_n 0, 1) := by decide +kernel
theorem dX13_hanging_17 : decode cX13_hanging 17 = .ok (.getfield 125, 3) := by decide +kernel
theorem dX13_hanging_20 : decode cX13_hanging 20 = .ok (.iload_n 1, 1) := by decide +kernel
theorem dX13_hanging_21 : decode cX13_hanging 21 = .ok (.bipush 11, 2) := by decide +kernel
theorem dX13_hanging_23 : decode cX13_hanging 23 = .ok (.iadd, 1) := by decide +kernel
theorem dX13_hanging_24 : decode cX13_hanging 24 = .ok (.iload_n 3, 1) := by decide +kernel
theorem dX13_hanging_25 : decode cX13_hanging 25 = .ok (.iadd, 1) := by decide +kernel
theorem dX13_hanging_26 : decode cX13_hanging 26 = .ok (.iaload, 1) := by decide +kernel
theorem dX13_hanging_27 : decode cX13_hanging 27 = .ok (.iconst 5, 1) := by decide +kernel
theorem dX13_hanging_28 : decode cX13_hanging 28 = .ok (.if_icmp .ne 7, 3) := by decide +kernel
theorem dX13_hanging_31 : decode cX13_hanging 31 = .ok (.iload_n 3, 1) := by decide +kernel
theorem dX13_hanging_32 : decode cX13_hanging 32 = .ok (.goto 4, 3) := by decide +kernel
theorem dX13_hanging_35 : decode cX13_hanging 35 = .ok (.iload_n 2, 1) := by decide +kernel
theorem dX13_hanging_36 : decode cX13_hanging 36 = .ok (.istore_n 2, 1) := by decide +kernel
theorem dX13_hanging_37 : decode cX13_hanging 37 = .ok (.iinc 3 1, 3) := by decide +kernel
theorem dX13_hanging_40 : decode cX13_hanging 40 = .ok (.goto (-36), 3) := by decide +kernel
theorem dX13_hanging_43 : decode cX13_hanging 43 = .ok (.iload_n 2, 1) := by decide +kernel
theorem dX13_hanging_44 : decode cX13_hanging 44 = .ok (.ireturn, 1) := by decide +kernel
set_option maxRecDepth 20000 in
theorem ggX13_worthOf_X13_bits : GoodIn wsX13_worthOf wsX13_bits := goodIn_r _ [7] (by decide +kernel) (by decide +kernel)
set_option maxRecDepth 20000 in
theorem gX13_worthOf_X13_bits : GoodIn wsX13_worthOf (va_wsS RX13 339 yX13_bits wsX13_bits) := goodIn_app (goodIn_of _ (by decide +kernel)) ggX13_worthOf_X13_bits
set_option maxRecDepth 20000 in
theorem ggX13_worthOf_X13_worthAt : GoodIn wsX13_worthOf wsX13_worthAt := goodIn_r _ [11, 12, 13, 14, 1, 15, 16, 6, 17, 18, 19, 20, 21, 22, 23, 24, 25, 26, 27, 28, 29, 30, 31, 32, 33, 34, 35, 36, 37, 38, 39, 40, 41, 42, 43, 44, 45, 46, 47, 48, 49, 50, 51, 52, 53, 54, 55, 56, 57, 58] (by decide +kernel) (by decide +kernel)
set_option maxRecDepth 20000 in
theorem gX13_worthOf_X13_worthAt : GoodIn wsX13_worthOf (wsV RX13 342 RX13 yX13_worthAt wsX13_worthAt) := goodIn_app (goodIn_of _ (by decide +kernel)) ggX13_worthOf_X13_worthAt
theorem dX13_worthOf_0 : decode cX13_worthOf 0 = .ok (.aload_n 0, 1) := by decide +kernel
theorem dX13_worthOf_1 : decode cX13_worthOf 1 = .ok (.getfield 119, 3) := by decide +kernel
theorem dX13_worthOf_4 : decode cX13_worthOf 4 = .ok (.iconst 0, 1) := by decide +kernel
theorem dX13_worthOf_5 : decode cX13_worthOf 5 = .ok (.aload_n 0, 1) := by decide +kernel
theorem dX13_worthOf_6 : decode cX13_worthOf 6 = .ok (.getfield 125, 3) := by decide +kernel
theorem dX13_worthOf_9 : decode cX13_worthOf 9 = .ok (.iload_n 1, 1) := by decide +kernel
theorem dX13_worthOf_10 : decode cX13_worthOf 10 = .ok (.iconst 3, 1) := by decide +kernel
theorem dX13_worthOf_11 : decode cX13_worthOf 11 = .ok (.iadd, 1) := by decide +kernel
theorem dX13_worthOf_12 : decode cX13_worthOf 12 = .ok (.iload_n 2, 1) := by decide +kernel
theorem dX13_worthOf_13 : decode cX13_worthOf 13 = .ok (.iadd, 1) := by decide +kernel
theorem dX13_worthOf_14 : decode cX13_worthOf 14 = .ok (.iaload, 1) := by decide +kernel
theorem dX13_worthOf_15 : decode cX13_worthOf 15 = .ok (.invokestatic 339, 3) := by decide +kernel
theorem dX13_worthOf_18 : decode cX13_worthOf 18 = .ok (.iastore, 1) := by decide +kernel
theorem dX13_worthOf_19 : decode cX13_worthOf 19 = .ok (.aload_n 0, 1) := by decide +kernel
theorem dX13_worthOf_20 : decode cX13_worthOf 20 = .ok (.getfield 119, 3) := by decide +kernel
theorem dX13_worthOf_23 : decode cX13_worthOf 23 = .ok (.iconst 1, 1) := by decide +kernel
theorem dX13_worthOf_24 : decode cX13_worthOf 24 = .ok (.iload_n 2, 1) := by decide +kernel
theorem dX13_worthOf_25 : decode cX13_worthOf 25 = .ok (.iastore, 1) := by decide +kernel
theorem dX13_worthOf_26 : decode cX13_worthOf 26 = .ok (.aload_n 0, 1) := by decide +kernel
theorem dX13_worthOf_27 : decode cX13_worthOf 27 = .ok (.getfield 119, 3) := by decide +kernel
theorem dX13_worthOf_30 : decode cX13_worthOf 30 = .ok (.iconst 2, 1) := by decide +kernel
theorem dX13_worthOf_31 : decode cX13_worthOf 31 = .ok (.aload_n 0, 1) := by decide +kernel
theorem dX13_worthOf_32 : decode cX13_worthOf 32 = .ok (.getfield 125, 3) := by decide +kernel
theorem dX13_worthOf_35 : decode cX13_worthOf 35 = .ok (.iload_n 1, 1) := by decide +kernel
theorem dX13_worthOf_36 : decode cX13_worthOf 36 = .ok (.bipush 19, 2) := by decide +kernel
theorem dX13_worthOf_38 : decode cX13_worthOf 38 = .ok (.iadd, 1) := by decide +kernel
theorem dX13_worthOf_39 : decode cX13_worthOf 39 = .ok (.iload_n 2, 1) := by decide +kernel
theorem dX13_worthOf_40 : decode cX13_worthOf 40 = .ok (.iadd, 1) := by decide +kernel
theorem dX13_worthOf_41 : decode cX13_worthOf 41 = .ok (.iaload, 1) := by decide +kernel
theorem dX13_worthOf_42 : decode cX13_worthOf 42 = .ok (.iastore, 1) := by decide +kernel
theorem dX13_worthOf_43 : decode cX13_worthOf 43 = .ok (.aload_n 0, 1) := by decide +kernel
theorem dX13_worthOf_44 : decode cX13_worthOf 44 = .ok (.getfield 95, 3) := by decide +kernel
theorem dX13_worthOf_47 : decode cX13_worthOf 47 = .ok (.iconst 4, 1) := by decide +kernel
theorem dX13_worthOf_48 : decode cX13_worthOf 48 = .ok (.iaload, 1) := by decide +kernel
theorem dX13_worthOf_49 : decode cX13_worthOf 49 = .ok (.ifCond .ge 20, 3) := by decide +kernel
theorem dX13_worthOf_52 : decode cX13_worthOf 52 = .ok (.bipush 100, 2) := by decide +kernel
theorem dX13_worthOf_54 : decode cX13_worthOf 54 = .ok (.aload_n 0, 1) := by decide +kernel
theorem dX13_worthOf_55 : decode cX13_worthOf 55 = .ok (.getfield 119, 3) := by decide +kernel
theorem dX13_worthOf_58 : decode cX13_worthOf 58 = .ok (.iconst 0, 1) := by decide +kernel
theorem dX13_worthOf_59 : decode cX13_worthOf 59 = .ok (.iaload, 1) := by decide +kernel
theorem dX13_worthOf_60 : decode cX13_worthOf 60 = .ok (.bipush 10, 2) := by decide +kernel
theorem dX13_worthOf_62 : decode cX13_worthOf 62 = .ok (.imul, 1) := by decide +kernel
theorem dX13_worthOf_63 : decode cX13_worthOf 63 = .ok (.isub, 1) := by decide +kernel
theorem dX13_worthOf_64 : decode cX13_worthOf 64 = .ok (.iload_n 2, 1) := by decide +kernel
theorem dX13_worthOf_65 : decode cX13_worthOf 65 = .ok (.isub, 1) := by decide +kernel
theorem dX13_worthOf_66 : decode cX13_worthOf 66 = .ok (.goto 13, 3) := by decide +kernel
theorem dX13_worthOf_69 : decode cX13_worthOf 69 = .ok (.aload_n 0, 1) := by decide +kernel
theorem dX13_worthOf_70 : decode cX13_worthOf 70 = .ok (.aload_n 0, 1) := by decide +kernel
theorem dX13_worthOf_71 : decode cX13_worthOf 71 = .ok (.getfield 95, 3) := by decide +kernel
theorem dX13_worthOf_74 : decode cX13_worthOf 74 = .ok (.iconst 4, 1) := by decide +kernel
theorem dX13_worthOf_75 : decode cX13_worthOf 75 = .ok (.iaload, 1) := by decide +kernel
theorem dX13_worthOf_76 : decode cX13_worthOf 76 = .ok (.invokevirtual 342, 3) := by decide +kernel
theorem dX13_worthOf_79 : decode cX13_worthOf 79 = .ok (.istore_n 3, 1) := by decide +kernel
theorem dX13_worthOf_80 : decode cX13_worthOf 80 = .ok (.iload_n 3, 1) := by decide +kernel
theorem dX13_worthOf_81 : decode cX13_worthOf 81 = .ok (.ifCond .ge 7, 3) := by decide +kernel
theorem dX13_worthOf_84 : decode cX13_worthOf 84 = .ok (.iconst 0, 1) := by decide +kernel
theorem dX13_worthOf_85 : decode cX13_worthOf 85 = .ok (.goto 17, 3) := by decide +kernel
theorem dX13_worthOf_88 : decode cX13_worthOf 88 = .ok (.iload_n 3, 1) := by decide +kernel
theorem dX13_worthOf_89 : decode cX13_worthOf 89 = .ok (.sipush 999, 3) := by decide +kernel
theorem dX13_worthOf_92 : decode cX13_worthOf 92 = .ok (.if_icmp .le 9, 3) := by decide +kernel
theorem dX13_worthOf_95 : decode cX13_worthOf 95 = .ok (.sipush 999, 3) := by decide +kernel
theorem dX13_worthOf_98 : decode cX13_worthOf 98 = .ok (.goto 4, 3) := by decide +kernel
theorem dX13_worthOf_101 : decode cX13_worthOf 101 = .ok (.iload_n 3, 1) := by decide +kernel
theorem dX13_worthOf_102 : decode cX13_worthOf 102 = .ok (.ireturn, 1) := by decide +kernel
set_option maxRecDepth 20000 in
theorem ggX13_hardOf_X13_bits : GoodIn wsX13_hardOf wsX13_bits := goodIn_r _ [7] (by decide +kernel) (by decide +kernel)
set_option maxRecDepth 20000 in
theorem gX13_hardOf_X13_bits : GoodIn wsX13_hardOf (va_wsS RX13 339 yX13_bits wsX13_bits) := goodIn_app (goodIn_of _ (by decide +kernel)) ggX13_hardOf_X13_bits
set_option maxRecDepth 20000 in
theorem ggX13_hardOf_X13_worthAt : GoodIn wsX13_hardOf wsX13_worthAt := goodIn_r _ [11, 12, 13, 14, 1, 15, 16, 6, 17, 18, 19, 20, 21, 22, 23, 24, 25, 26, 27, 28, 29, 30, 31, 32, 33, 34, 35, 36, 37, 38, 39, 40, 41, 42, 43, 44, 45, 46, 47, 48, 49, 50, 51, 52, 53, 54, 55, 56, 57, 58] (by decide +kernel) (by decide +kernel)
set_option maxRecDepth 20000 in
theorem gX13_hardOf_X13_worthAt : GoodIn wsX13_hardOf (wsV RX13 342 RX13 yX13_worthAt wsX13_worthAt) := goodIn_app (goodIn_of _ (by decide +kernel)) ggX13_hardOf_X13_worthAt
theorem dX13_hardOf_0 : decode cX13_hardOf 0 = .ok (.aload_n 0, 1) := by decide +kernel
theorem dX13_hardOf_1 : decode cX13_hardOf 1 = .ok (.getfield 119, 3) := by decide +kernel
theorem dX13_hardOf_4 : decode cX13_hardOf 4 = .ok (.iconst 0, 1) := by decide +kernel
theorem dX13_hardOf_5 : decode cX13_hardOf 5 = .ok (.aload_n 0, 1) := by decide +kernel
theorem dX13_hardOf_6 : decode cX13_hardOf 6 = .ok (.getfield 125, 3) := by decide +kernel
theorem dX13_hardOf_9 : decode cX13_hardOf 9 = .ok (.iload_n 1, 1) := by decide +kernel
theorem dX13_hardOf_10 : decode cX13_hardOf 10 = .ok (.iconst 3, 1) := by decide +kernel
theorem dX13_hardOf_11 : decode cX13_hardOf 11 = .ok (.iadd, 1) := by decide +kernel
theorem dX13_hardOf_12 : decode cX13_hardOf 12 = .ok (.iload_n 2, 1) := by decide +kernel
theorem dX13_hardOf_13 : decode cX13_hardOf 13 = .ok (.iadd, 1) := by decide +kernel
theorem dX13_hardOf_14 : decode cX13_hardOf 14 = .ok (.iaload, 1) := by decide +kernel
theorem dX13_hardOf_15 : decode cX13_hardOf 15 = .ok (.invokestatic 339, 3) := by decide +kernel
theorem dX13_hardOf_18 : decode cX13_hardOf 18 = .ok (.iastore, 1) := by decide +kernel
theorem dX13_hardOf_19 : decode cX13_hardOf 19 = .ok (.aload_n 0, 1) := by decide +kernel
theorem dX13_hardOf_20 : decode cX13_hardOf 20 = .ok (.getfield 119, 3) := by decide +kernel
theorem dX13_hardOf_23 : decode cX13_hardOf 23 = .ok (.iconst 1, 1) := by decide +kernel
theorem dX13_hardOf_24 : decode cX13_hardOf 24 = .ok (.iload_n 2, 1) := by decide +kernel
theorem dX13_hardOf_25 : decode cX13_hardOf 25 = .ok (.iastore, 1) := by decide +kernel
theorem dX13_hardOf_26 : decode cX13_hardOf 26 = .ok (.aload_n 0, 1) := by decide +kernel
theorem dX13_hardOf_27 : decode cX13_hardOf 27 = .ok (.getfield 119, 3) := by decide +kernel
theorem dX13_hardOf_30 : decode cX13_hardOf 30 = .ok (.iconst 3, 1) := by decide +kernel
theorem dX13_hardOf_31 : decode cX13_hardOf 31 = .ok (.iload_n 3, 1) := by decide +kernel
theorem dX13_hardOf_32 : decode cX13_hardOf 32 = .ok (.iastore, 1) := by decide +kernel
theorem dX13_hardOf_33 : decode cX13_hardOf 33 = .ok (.aload_n 0, 1) := by decide +kernel
theorem dX13_hardOf_34 : decode cX13_hardOf 34 = .ok (.getfield 95, 3) := by decide +kernel
theorem dX13_hardOf_37 : decode cX13_hardOf 37 = .ok (.iconst 5, 1) := by decide +kernel
theorem dX13_hardOf_38 : decode cX13_hardOf 38 = .ok (.iaload, 1) := by decide +kernel
theorem dX13_hardOf_39 : decode cX13_hardOf 39 = .ok (.ifCond .ge 14, 3) := by decide +kernel
theorem dX13_hardOf_42 : decode cX13_hardOf 42 = .ok (.aload_n 0, 1) := by decide +kernel
theorem dX13_hardOf_43 : decode cX13_hardOf 43 = .ok (.getfield 119, 3) := by decide +kernel
theorem dX13_hardOf_46 : decode cX13_hardOf 46 = .ok (.iconst 0, 1) := by decide +kernel
theorem dX13_hardOf_47 : decode cX13_hardOf 47 = .ok (.iaload, 1) := by decide +kernel
theorem dX13_hardOf_48 : decode cX13_hardOf 48 = .ok (.iload_n 3, 1) := by decide +kernel
theorem dX13_hardOf_49 : decode cX13_hardOf 49 = .ok (.iadd, 1) := by decide +kernel
theorem dX13_hardOf_50 : decode cX13_hardOf 50 = .ok (.goto 13, 3) := by decide +kernel
theorem dX13_hardOf_53 : decode cX13_hardOf 53 = .ok (.aload_n 0, 1) := by decide +kernel
theorem dX13_hardOf_54 : decode cX13_hardOf 54 = .ok (.aload_n 0, 1) := by decide +kernel
theorem dX13_hardOf_55 : decode cX13_hardOf 55 = .ok (.getfield 95, 3) := by decide +kernel
theorem dX13_hardOf_58 : decode cX13_hardOf 58 = .ok (.iconst 5, 1) := by decide +kernel
theorem dX13_hardOf_59 : decode cX13_hardOf 59 = .ok (.iaload, 1) := by decide +kernel
theorem dX13_hardOf_60 : decode cX13_hardOf 60 = .ok (.invokevirtual 342, 3) := by decide +kernel
theorem dX13_hardOf_63 : decode cX13_hardOf 63 = .ok (.ireturn, 1) := by decide +kernel
set_option maxRecDepth 20000 in
theorem ggX13_piece_X13_isPiece : GoodIn wsX13_piece wsX13_isPiece := goodIn_r _ [7, 2, 30, 31, 32, 33, 34, 35, 36, 37, 38, 39, 40, 41, 42, 43, 44, 45, 46, 47, 48, 49, 50, 51, 52, 53, 54, 55, 56, 57, 58, 59, 60, 61, 62, 63, 64, 65, 66, 67, 68, 69, 70] (by decide +kernel) (by decide +kernel)
set_option maxRecDepth 20000 in
theorem gX13_piece_X13_isPiece : GoodIn wsX13_piece (wsV RX13 345 RX13 yX13_isPiece wsX13_isPiece) := goodIn_app (goodIn_of _ (by decide +kernel)) ggX13_piece_X13_isPiece
set_option maxRecDepth 20000 in
theorem ggX13_piece_X13_within : GoodIn wsX13_piece wsX13_within := goodIn_r _ [10] (by decide +kernel) (by decide +kernel)
set_option maxRecDepth 20000 in
theorem gX13_piece_X13_within : GoodIn wsX13_piece (va_wsS RX13 231 yX13_within wsX13_within) := goodIn_app (goodIn_of _ (by decide +kernel)) ggX13_piece_X13_within
set_option maxRecDepth 20000 in
theorem ggX13_piece_X13_worthOf : GoodIn wsX13_piece wsX13_worthOf := goodIn_r _ [14, 15, 2, 16, 17, 18, 6, 19, 20, 21, 22, 23, 24, 25, 26, 27, 28, 29, 30, 31, 32, 33, 34, 35, 36, 37, 38, 39, 40, 41, 42, 43, 44, 45, 46, 47, 48, 49, 50, 51, 52, 53, 54, 55, 56, 57, 58, 59, 60, 61, 62, 63, 64, 65, 66, 67, 68, 69, 70] (by decide +kernel) (by decide +kernel)
set_option maxRecDepth 20000 in
theorem gX13_piece_X13_worthOf : GoodIn wsX13_piece (wsV RX13 349 RX13 yX13_worthOf wsX13_worthOf) := goodIn_app (goodIn_of _ (by decide +kernel)) ggX13_piece_X13_worthOf
theorem dX13_piece_0 : decode cX13_piece 0 = .ok (.aload_n 0, 1) := by decide +kernel
theorem dX13_piece_1 : decode cX13_piece 1 = .ok (.iconst 0, 1) := by decide +kernel
theorem dX13_piece_2 : decode cX13_piece 2 = .ok (.putfield 1, 3) := by decide +kernel
theorem dX13_piece_5 : decode cX13_piece 5 = .ok (.aload_n 0, 1) := by decide +kernel
theorem dX13_piece_6 : decode cX13_piece 6 = .ok (.iconst 0, 1) := by decide +kernel
theorem dX13_piece_7 : decode cX13_piece 7 = .ok (.iload_n 1, 1) := by decide +kernel
theorem dX13_piece_8 : decode cX13_piece 8 = .ok (.invokevirtual 345, 3) := by decide +kernel
theorem dX13_piece_11 : decode cX13_piece 11 = .ok (.ifCond .eq 12, 3) := by decide +kernel
theorem dX13_piece_14 : decode cX13_piece 14 = .ok (.iload_n 2, 1) := by decide +kernel
theorem dX13_piece_15 : decode cX13_piece 15 = .ok (.iconst 0, 1) := by decide +kernel
theorem dX13_piece_16 : decode cX13_piece 16 = .ok (.iconst 4, 1) := by decide +kernel
theorem dX13_piece_17 : decode cX13_piece 17 = .ok (.invokestatic 231, 3) := by decide +kernel
theorem dX13_piece_20 : decode cX13_piece 20 = .ok (.ifCond .ne 5, 3) := by decide +kernel
theorem dX13_piece_23 : decode cX13_piece 23 = .ok (.iconst (-1), 1) := by decide +kernel
theorem dX13_piece_24 : decode cX13_piece 24 = .ok (.ireturn, 1) := by decide +kernel
theorem dX13_piece_25 : decode cX13_piece 25 = .ok (.iload_n 2, 1) := by decide +kernel
theorem dX13_piece_26 : decode cX13_piece 26 = .ok (.tableswitch 69 0 3 #[30, 39, 49, 59], 30) := by decide +kernel
theorem dX13_piece_56 : decode cX13_piece 56 = .ok (.aload_n 0, 1) := by decide +kernel
theorem dX13_piece_57 : decode cX13_piece 57 = .ok (.getfield 125, 3) := by decide +kernel
theorem dX13_piece_60 : decode cX13_piece 60 = .ok (.iconst 3, 1) := by decide +kernel
theorem dX13_piece_61 : decode cX13_piece 61 = .ok (.iload_n 1, 1) := by decide +kernel
theorem dX13_piece_62 : decode cX13_piece 62 = .ok (.iadd, 1) := by decide +kernel
theorem dX13_piece_63 : decode cX13_piece 63 = .ok (.iaload, 1) := by decide +kernel
theorem dX13_piece_64 : decode cX13_piece 64 = .ok (.ireturn, 1) := by decide +kernel
theorem dX13_piece_65 : decode cX13_piece 65 = .ok (.aload_n 0, 1) := by decide +kernel
theorem dX13_piece_66 : decode cX13_piece 66 = .ok (.getfield 125, 3) := by decide +kernel
theorem dX13_piece_69 : decode cX13_piece 69 = .ok (.bipush 11, 2) := by decide +kernel
theorem dX13_piece_71 : decode cX13_piece 71 = .ok (.iload_n 1, 1) := by decide +kernel
theorem dX13_piece_72 : decode cX13_piece 72 = .ok (.iadd, 1) := by decide +kernel
theorem dX13_piece_73 : decode cX13_piece 73 = .ok (.iaload, 1) := by decide +kernel
theorem dX13_piece_74 : decode cX13_piece 74 = .ok (.ireturn, 1) := by decide +kernel
theorem dX13_piece_75 : decode cX13_piece 75 = .ok (.aload_n 0, 1) := by decide +kernel
theorem dX13_piece_76 : decode cX13_piece 76 = .ok (.getfield 125, 3) := by decide +kernel
theorem dX13_piece_79 : decode cX13_piece 79 = .ok (.bipush 27, 2) := by decide +kernel
theorem dX13_piece_81 : decode cX13_piece 81 = .ok (.iload_n 1, 1) := by decide +kernel
theorem dX13_piece_82 : decode cX13_piece 82 = .ok (.iadd, 1) := by decide +kernel
theorem dX13_piece_83 : decode cX13_piece 83 = .ok (.iaload, 1) := by decide +kernel
theorem dX13_piece_84 : decode cX13_piece 84 = .ok (.ireturn, 1) := by decide +kernel
theorem dX13_piece_85 : decode cX13_piece 85 = .ok (.aload_n 0, 1) := by decide +kernel
theorem dX13_piece_86 : decode cX13_piece 86 = .ok (.getfield 125, 3) := by decide +kernel
theorem dX13_piece_89 : decode cX13_piece 89 = .ok (.bipush 19, 2) := by decide +kernel
theorem dX13_piece_91 : decode cX13_piece 91 = .ok (.iload_n 1, 1) := by decide +kernel
theorem dX13_piece_92 : decode cX13_piece 92 = .ok (.iadd, 1) := by decide +kernel
theorem dX13_piece_93 : decode cX13_piece 93 = .ok (.iaload, 1) := by decide +kernel
theorem dX13_piece_94 : decode cX13_piece 94 = .ok (.ireturn, 1) := by decide +kernel
theorem dX13_piece_95 : decode cX13_piece 95 = .ok (.aload_n 0, 1) := by decide +kernel
theorem dX13_piece_96 : decode cX13_piece 96 = .ok (.iconst 0, 1) := by decide +kernel
theorem dX13_piece_97 : decode cX13_piece 97 = .ok (.iload_n 1, 1) := by decide +kernel
theorem dX13_piece_98 : decode cX13_piece 98 = .ok (.invokevirtual 349, 3) := by decide +kernel
theorem dX13_piece_101 : decode cX13_piece 101 = .ok (.ireturn, 1) := by decide +kernel
set_option maxRecDepth 20000 in
theorem ggX13_distanceOf_X13_bits : GoodIn wsX13_distanceOf wsX13_bits := goodIn_r _ [5] (by decide +kernel) (by decide +kernel)
set_option maxRecDepth 20000 in
theorem gX13_distanceOf_X13_bits : GoodIn wsX13_distanceOf (va_wsS RX13 339 yX13_bits wsX13_bits) := goodIn_app (goodIn_of _ (by decide +kernel)) ggX13_distanceOf_X13_bits
theorem dX13_distanceOf_0 : decode cX13_distanceOf 0 = .ok (.aload_n 0, 1) := by decide +kernel
theorem dX13_distanceOf_1 : decode cX13_distanceOf 1 = .ok (.getfield 125, 3) := by decide +kernel
theorem dX13_distanceOf_4 : decode cX13_distanceOf 4 = .ok (.iconst 3, 1) := by decide +kernel
theorem dX13_distanceOf_5 : decode cX13_distanceOf 5 = .ok (.iload_n 1, 1) := by decide +kernel
theorem dX13_distanceOf_6 : decode cX13_distanceOf 6 = .ok (.iadd, 1) := by decide +kernel
theorem dX13_distanceOf_7 : decode cX13_distanceOf 7 = .ok (.iaload, 1) := by decide +kernel
theorem dX13_distanceOf_8 : decode cX13_distanceOf 8 = .ok (.aload_n 0, 1) := by decide +kernel
theorem dX13_distanceOf_9 : decode cX13_distanceOf 9 = .ok (.getfield 125, 3) := by decide +kernel
theorem dX13_distanceOf_12 : decode cX13_distanceOf 12 = .ok (.iconst 3, 1) := by decide +kernel
theorem dX13_distanceOf_13 : decode cX13_distanceOf 13 = .ok (.iload_n 2, 1) := by decide +kernel
theorem dX13_distanceOf_14 : decode cX13_distanceOf 14 = .ok (.iadd, 1) := by decide +kernel
theorem dX13_distanceOf_15 : decode cX13_distanceOf 15 = .ok (.iaload, 1) := by decide +kernel
theorem dX13_distanceOf_16 : decode cX13_distanceOf 16 = .ok (.ixor, 1) := by decide +kernel
theorem dX13_distanceOf_17 : decode cX13_distanceOf 17 = .ok (.invokestatic 339, 3) := by decide +kernel
theorem dX13_distanceOf_20 : decode cX13_distanceOf 20 = .ok (.ireturn, 1) := by decide +kernel
set_option maxRecDepth 20000 in
theorem ggX13_distance_X13_isPiece : GoodIn wsX13_distance wsX13_isPiece := goodIn_r _ [6, 7, 15, 16, 17, 18, 19, 20, 21, 22, 23, 24, 25, 26, 27, 28, 29, 30, 31, 32, 33, 34, 35, 36, 37, 38, 39, 40, 41, 42, 43, 44, 45, 46, 47, 48, 49, 50, 51, 52, 53, 54, 55] (by decide +kernel) (by decide +kernel)
set_option maxRecDepth 20000 in
theorem gX13_distance_X13_isPiece : GoodIn wsX13_distance (wsV RX13 345 RX13 yX13_isPiece wsX13_isPiece) := goodIn_app (goodIn_of _ (by decide +kernel)) ggX13_distance_X13_isPiece
set_option maxRecDepth 20000 in
theorem ggX13_distance_X13_distanceOf : GoodIn wsX13_distance wsX13_distanceOf := goodIn_r _ [11, 7, 12, 13, 5, 14, 15, 16, 17, 18, 19, 20, 21, 22, 23, 24, 25, 26, 27, 28, 29, 30, 31, 32, 33, 34, 35, 36, 37, 38, 39, 40, 41, 42, 43, 44, 45, 46, 47, 48, 49, 50, 51, 52, 53, 54, 55] (by decide +kernel) (by decide +kernel)
set_option maxRecDepth 20000 in
theorem gX13_distance_X13_distanceOf : GoodIn wsX13_distance (wsV RX13 352 RX13 yX13_distanceOf wsX13_distanceOf) := goodIn_app (goodIn_of _ (by decide +kernel)) ggX13_distance_X13_distanceOf
theorem dX13_distance_0 : decode cX13_distance 0 = .ok (.aload_n 0, 1) := by decide +kernel
theorem dX13_distance_1 : decode cX13_distance 1 = .ok (.iconst 0, 1) := by decide +kernel
theorem dX13_distance_2 : decode cX13_distance 2 = .ok (.putfield 1, 3) := by decide +kernel
theorem dX13_distance_5 : decode cX13_distance 5 = .ok (.aload_n 0, 1) := by decide +kernel
theorem dX13_distance_6 : decode cX13_distance 6 = .ok (.iconst 0, 1) := by decide +kernel
theorem dX13_distance_7 : decode cX13_distance 7 = .ok (.iload_n 1, 1) := by decide +kernel
theorem dX13_distance_8 : decode cX13_distance 8 = .ok (.invokevirtual 345, 3) := by decide +kernel
theorem dX13_distance_11 : decode cX13_distance 11 = .ok (.ifCond .eq 21, 3) := by decide +kernel
theorem dX13_distance_14 : decode cX13_distance 14 = .ok (.aload_n 0, 1) := by decide +kernel
theorem dX13_distance_15 : decode cX13_distance 15 = .ok (.iconst 0, 1) := by decide +kernel
theorem dX13_distance_16 : decode cX13_distance 16 = .ok (.iload_n 2, 1) := by decide +kernel
theorem dX13_distance_17 : decode cX13_distance 17 = .ok (.invokevirtual 345, 3) := by decide +kernel
theorem dX13_distance_20 : decode cX13_distance 20 = .ok (.ifCond .eq 12, 3) := by decide +kernel
theorem dX13_distance_23 : decode cX13_distance 23 = .ok (.aload_n 0, 1) := by decide +kernel
theorem dX13_distance_24 : decode cX13_distance 24 = .ok (.iload_n 1, 1) := by decide +kernel
theorem dX13_distance_25 : decode cX13_distance 25 = .ok (.iload_n 2, 1) := by decide +kernel
theorem dX13_distance_26 : decode cX13_distance 26 = .ok (.invokevirtual 352, 3) := by decide +kernel
theorem dX13_distance_29 : decode cX13_distance 29 = .ok (.goto 4, 3) := by decide +kernel
theorem dX13_distance_32 : decode cX13_distance 32 = .ok (.iconst (-1), 1) := by decide +kernel
theorem dX13_distance_33 : decode cX13_distance 33 = .ok (.ireturn, 1) := by decide +kernel
theorem dX13_hasOf_0 : decode cX13_hasOf 0 = .ok (.iconst 0, 1) := by decide +kernel
theorem dX13_hasOf_1 : decode cX13_hasOf 1 = .ok (.istore_n 3, 1) := by decide +kernel
theorem dX13_hasOf_2 : decode cX13_hasOf 2 = .ok (.iconst 0, 1) := by decide +kernel
theorem dX13_hasOf_3 : decode cX13_hasOf 3 = .ok (.istore 4, 2) := by decide +kernel
theorem dX13_hasOf_5 : decode cX13_hasOf 5 = .ok (.iload 4, 2) := by decide +kernel
theorem dX13_hasOf_7 : decode cX13_hasOf 7 = .ok (.aload_n 0, 1) := by decide +kernel
theorem dX13_hasOf_8 : decode cX13_hasOf 8 = .ok (.getfield 125, 3) := by decide +kernel
theorem dX13_hasOf_11 : decode cX13_hasOf 11 = .ok (.iload_n 1, 1) := by decide +kernel
theorem dX13_hasOf_12 : decode cX13_hasOf 12 = .ok (.iconst 2, 1) := by decide +kernel
theorem dX13_hasOf_13 : decode cX13_hasOf 13 = .ok (.iadd, 1) := by decide +kernel
theorem dX13_hasOf_14 : decode cX13_hasOf 14 = .ok (.iaload, 1) := by decide +kernel
theorem dX13_hasOf_15 : decode cX13_hasOf 15 = .ok (.if_icmp .ge 36, 3) := by decide +kernel
theorem dX13_hasOf_18 : decode cX13_hasOf 18 = .ok (.iload_n 3, 1) := by decide +kernel
theorem dX13_hasOf_19 : decode cX13_hasOf 19 = .ok (.aload_n 0, 1) := by decide +kernel
theorem dX13_hasOf_20 : decode cX13_hasOf 20 = .ok (.getfield 125, 3) := by decide +kernel
theorem dX13_hasOf_23 : decode cX13_hasOf 23 = .ok (.iload_n 1, 1) := by decide +kernel
theorem dX13_hasOf_24 : decode cX13_hasOf 24 = .ok (.bipush 11, 2) := by decide +kernel
theorem dX13_hasOf_26 : decode cX13_hasOf 26 = .ok (.iadd, 1) := by decide +kernel
theorem dX13_hasOf_27 : decode cX13_hasOf 27 = .ok (.iload 4, 2) := by decide +kernel
theorem dX13_hasOf_29 : decode cX13_hasOf 29 = .ok (.iadd, 1) := by decide +kernel
theorem dX13_hasOf_30 : decode cX13_hasOf 30 = .ok (.iaload, 1) := by decide +kernel
theorem dX13_hasOf_31 : decode cX13_hasOf 31 = .ok (.iload_n 2, 1) := by decide +kernel
theorem dX13_hasOf_32 : decode cX13_hasOf 32 = .ok (.if_icmp .ne 10, 3) := by decide +kernel
theorem dX13_hasOf_35 : decode cX13_hasOf 35 = .ok (.iconst 1, 1) := by decide +kernel
theorem dX13_hasOf_36 : decode cX13_hasOf 36 = .ok (.iload 4, 2) := by decide +kernel
theorem dX13_hasOf_38 : decode cX13_hasOf 38 = .ok (.ishl, 1) := by decide +kernel
theorem dX13_hasOf_39 : decode cX13_hasOf 39 = .ok (.goto 4, 3) := by decide +kernel
theorem dX13_hasOf_42 : decode cX13_hasOf 42 = .ok (.iconst 0, 1) := by decide +kernel
theorem dX13_hasOf_43 : decode cX13_hasOf 43 = .ok (.ior, 1) := by decide +kernel
theorem dX13_hasOf_44 : decode cX13_hasOf 44 = .ok (.istore_n 3, 1) := by decide +kernel
theorem dX13_hasOf_45 : decode cX13_hasOf 45 = .ok (.iinc 4 1, 3) := by decide +kernel
theorem dX13_hasOf_48 : decode cX13_hasOf 48 = .ok (.goto (-43), 3) := by decide +kernel
theorem dX13_hasOf_51 : decode cX13_hasOf 51 = .ok (.iload_n 3, 1) := by decide +kernel
theorem dX13_hasOf_52 : decode cX13_hasOf 52 = .ok (.ireturn, 1) := by decide +kernel
set_option maxRecDepth 20000 in
theorem ggX13_thief_X13_isThief : GoodIn wsX13_thief wsX13_isThief := goodIn_r _ [7, 8, 9, 10, 6, 11, 12, 24, 25, 26, 27, 28, 29, 30, 31, 32, 33, 34, 35, 36, 37, 38, 39, 40, 41, 42, 43, 44, 45, 46, 47, 48, 49, 50, 51, 52, 53, 54, 55, 56, 57, 58, 59, 60, 61, 62, 63, 64] (by decide +kernel) (by decide +kernel)
set_option maxRecDepth 20000 in
theorem gX13_thief_X13_isThief : GoodIn wsX13_thief (wsV RX13 355 RX13 yX13_isThief wsX13_isThief) := goodIn_app (goodIn_of _ (by decide +kernel)) ggX13_thief_X13_isThief
set_option maxRecDepth 20000 in
theorem ggX13_thief_X13_within : GoodIn wsX13_thief wsX13_within := goodIn_r _ [15] (by decide +kernel) (by decide +kernel)
set_option maxRecDepth 20000 in
theorem gX13_thief_X13_within : GoodIn wsX13_thief (va_wsS RX13 231 yX13_within wsX13_within) := goodIn_app (goodIn_of _ (by decide +kernel)) ggX13_thief_X13_within
set_option maxRecDepth 20000 in
theorem ggX13_thief_X13_hasOf : GoodIn wsX13_thief wsX13_hasOf := goodIn_r _ [19, 2, 24, 25, 26, 27, 28, 29, 30, 31, 32, 33, 34, 35, 36, 37, 38, 39, 40, 41, 42, 43, 44, 45, 46, 47, 48, 49, 50, 51, 52, 53, 54, 55, 56, 57, 58, 59, 60, 61, 62, 63, 64] (by decide +kernel) (by decide +kernel)
set_option maxRecDepth 20000 in
theorem gX13_thief_X13_hasOf : GoodIn wsX13_thief (wsV RX13 358 RX13 yX13_hasOf wsX13_hasOf) := goodIn_app (goodIn_of _ (by decide +kernel)) ggX13_thief_X13_hasOf
set_option maxRecDepth 20000 in
theorem ggX13_thief_X13_thiefOf : GoodIn wsX13_thief wsX13_thiefOf := goodIn_r _ [23, 12, 24, 25, 26, 27, 28, 29, 30, 31, 32, 33, 34, 35, 36, 37, 38, 39, 40, 41, 42, 43, 44, 45, 46, 47, 48, 49, 50, 51, 52, 53, 54, 55, 56, 57, 58, 59, 60, 61, 62, 63, 64] (by decide +kernel) (by decide +kernel)
set_option maxRecDepth 20000 in
theorem gX13_thief_X13_thiefOf : GoodIn wsX13_thief (wsV RX13 323 RX13 yX13_thiefOf wsX13_thiefOf) := goodIn_app (goodIn_of _ (by decide +kernel)) ggX13_thief_X13_thiefOf
theorem dX13_thief_0 : decode cX13_thief 0 = .ok (.aload_n 0, 1) := by decide +kernel
theorem dX13_thief_1 : decode cX13_thief 1 = .ok (.iconst 0, 1) := by decide +kernel
theorem dX13_thief_2 : decode cX13_thief 2 = .ok (.putfield 1, 3) := by decide +kernel
theorem dX13_thief_5 : decode cX13_thief 5 = .ok (.aload_n 0, 1) := by decide +kernel
theorem dX13_thief_6 : decode cX13_thief 6 = .ok (.iload_n 1, 1) := by decide +kernel
theorem dX13_thief_7 : decode cX13_thief 7 = .ok (.invokevirtual 355, 3) := by decide +kernel
theorem dX13_thief_10 : decode cX13_thief 10 = .ok (.ifCond .eq 12, 3) := by decide +kernel
theorem dX13_thief_13 : decode cX13_thief 13 = .ok (.iload_n 2, 1) := by decide +kernel
theorem dX13_thief_14 : decode cX13_thief 14 = .ok (.iconst 0, 1) := by decide +kernel
theorem dX13_thief_15 : decode cX13_thief 15 = .ok (.iconst 4, 1) := by decide +kernel
theorem dX13_thief_16 : decode cX13_thief 16 = .ok (.invokestatic 231, 3) := by decide +kernel
theorem dX13_thief_19 : decode cX13_thief 19 = .ok (.ifCond .ne 7, 3) := by decide +kernel
theorem dX13_thief_22 : decode cX13_thief 22 = .ok (.iconst (-1), 1) := by decide +kernel
theorem dX13_thief_23 : decode cX13_thief 23 = .ok (.goto 40, 3) := by decide +kernel
theorem dX13_thief_26 : decode cX13_thief 26 = .ok (.iload_n 2, 1) := by decide +kernel
theorem dX13_thief_27 : decode cX13_thief 27 = .ok (.iconst 2, 1) := by decide +kernel
theorem dX13_thief_28 : decode cX13_thief 28 = .ok (.if_icmp .ne 15, 3) := by decide +kernel
theorem dX13_thief_31 : decode cX13_thief 31 = .ok (.aload_n 0, 1) := by decide +kernel
theorem dX13_thief_32 : decode cX13_thief 32 = .ok (.getfield 125, 3) := by decide +kernel
theorem dX13_thief_35 : decode cX13_thief 35 = .ok (.bipush 43, 2) := by decide +kernel
theorem dX13_thief_37 : decode cX13_thief 37 = .ok (.iload_n 1, 1) := by decide +kernel
theorem dX13_thief_38 : decode cX13_thief 38 = .ok (.iadd, 1) := by decide +kernel
theorem dX13_thief_39 : decode cX13_thief 39 = .ok (.iaload, 1) := by decide +kernel
theorem dX13_thief_40 : decode cX13_thief 40 = .ok (.goto 23, 3) := by decide +kernel
theorem dX13_thief_43 : decode cX13_thief 43 = .ok (.iload_n 2, 1) := by decide +kernel
theorem dX13_thief_44 : decode cX13_thief 44 = .ok (.iconst 4, 1) := by decide +kernel
theorem dX13_thief_45 : decode cX13_thief 45 = .ok (.if_icmp .ne 12, 3) := by decide +kernel
theorem dX13_thief_48 : decode cX13_thief 48 = .ok (.aload_n 0, 1) := by decide +kernel
theorem dX13_thief_49 : decode cX13_thief 49 = .ok (.iconst 0, 1) := by decide +kernel
theorem dX13_thief_50 : decode cX13_thief 50 = .ok (.iload_n 1, 1) := by decide +kernel
theorem dX13_thief_51 : decode cX13_thief 51 = .ok (.invokevirtual 358, 3) := by decide +kernel
theorem dX13_thief_54 : decode cX13_thief 54 = .ok (.goto 9, 3) := by decide +kernel
theorem dX13_thief_57 : decode cX13_thief 57 = .ok (.aload_n 0, 1) := by decide +kernel
theorem dX13_thief_58 : decode cX13_thief 58 = .ok (.iload_n 1, 1) := by decide +kernel
theorem dX13_thief_59 : decode cX13_thief 59 = .ok (.iload_n 2, 1) := by decide +kernel
theorem dX13_thief_60 : decode cX13_thief 60 = .ok (.invokevirtual 323, 3) := by decide +kernel
theorem dX13_thief_63 : decode cX13_thief 63 = .ok (.ireturn, 1) := by decide +kernel
set_option maxRecDepth 20000 in
theorem ggX13_hasIt_X13_isPiece : GoodIn wsX13_hasIt wsX13_isPiece := goodIn_r _ [6, 1, 7, 8, 9, 10, 11, 12, 13, 14, 15, 16, 17, 18, 19, 20, 21, 22, 23, 24, 25, 26, 27, 28, 29, 30, 31, 32, 33, 34, 35, 36, 37, 38, 39, 40, 41, 42, 43, 44, 45, 46, 47] (by decide +kernel) (by decide +kernel)
set_option maxRecDepth 20000 in
theorem gX13_hasIt_X13_isPiece : GoodIn wsX13_hasIt (wsV RX13 345 RX13 yX13_isPiece wsX13_isPiece) := goodIn_app (goodIn_of _ (by decide +kernel)) ggX13_hasIt_X13_isPiece
theorem dX13_hasIt_0 : decode cX13_hasIt 0 = .ok (.aload_n 0, 1) := by decide +kernel
theorem dX13_hasIt_1 : decode cX13_hasIt 1 = .ok (.iload_n 1, 1) := by decide +kernel
theorem dX13_hasIt_2 : decode cX13_hasIt 2 = .ok (.iload_n 3, 1) := by decide +kernel
theorem dX13_hasIt_3 : decode cX13_hasIt 3 = .ok (.invokevirtual 345, 3) := by decide +kernel
theorem dX13_hasIt_6 : decode cX13_hasIt 6 = .ok (.ifCond .eq 22, 3) := by decide +kernel
theorem dX13_hasIt_9 : decode cX13_hasIt 9 = .ok (.aload_n 0, 1) := by decide +kernel
theorem dX13_hasIt_10 : decode cX13_hasIt 10 = .ok (.getfield 125, 3) := by decide +kernel
theorem dX13_hasIt_13 : decode cX13_hasIt 13 = .ok (.iload_n 1, 1) := by decide +kernel
theorem dX13_hasIt_14 : decode cX13_hasIt 14 = .ok (.bipush 11, 2) := by decide +kernel
theorem dX13_hasIt_16 : decode cX13_hasIt 16 = .ok (.iadd, 1) := by decide +kernel
theorem dX13_hasIt_17 : decode cX13_hasIt 17 = .ok (.iload_n 3, 1) := by decide +kernel
theorem dX13_hasIt_18 : decode cX13_hasIt 18 = .ok (.iadd, 1) := by decide +kernel
theorem dX13_hasIt_19 : decode cX13_hasIt 19 = .ok (.iaload, 1) := by decide +kernel
theorem dX13_hasIt_20 : decode cX13_hasIt 20 = .ok (.iload_n 2, 1) := by decide +kernel
theorem dX13_hasIt_21 : decode cX13_hasIt 21 = .ok (.if_icmp .ne 7, 3) := by decide +kernel
theorem dX13_hasIt_24 : decode cX13_hasIt 24 = .ok (.iconst 1, 1) := by decide +kernel
theorem dX13_hasIt_25 : decode cX13_hasIt 25 = .ok (.goto 4, 3) := by decide +kernel
theorem dX13_hasIt_28 : decode cX13_hasIt 28 = .ok (.iconst 0, 1) := by decide +kernel
theorem dX13_hasIt_29 : decode cX13_hasIt 29 = .ok (.ireturn, 1) := by decide +kernel
set_option maxRecDepth 20000 in
theorem ggX13_maySteal_X13_thiefOf : GoodIn wsX13_maySteal wsX13_thiefOf := goodIn_r _ [6, 7, 16, 17, 18, 19, 20, 21, 22, 23, 24, 25, 26, 27, 28, 29, 30, 31, 32, 33, 34, 35, 36, 37, 38, 39, 40, 41, 42, 43, 44, 45, 46, 47, 48, 49, 50, 51, 52, 53, 54, 55, 56] (by decide +kernel) (by decide +kernel)
set_option maxRecDepth 20000 in
theorem gX13_maySteal_X13_thiefOf : GoodIn wsX13_maySteal (wsV RX13 323 RX13 yX13_thiefOf wsX13_thiefOf) := goodIn_app (goodIn_of _ (by decide +kernel)) ggX13_maySteal_X13_thiefOf
set_option maxRecDepth 20000 in
theorem ggX13_maySteal_X13_hasIt : GoodIn wsX13_maySteal wsX13_hasIt := goodIn_r _ [11, 1, 12, 13, 14, 5, 15, 16, 17, 18, 19, 20, 21, 22, 23, 24, 25, 26, 27, 28, 29, 30, 31, 32, 33, 34, 35, 36, 37, 38, 39, 40, 41, 42, 43, 44, 45, 46, 47, 48, 49, 50, 51, 52, 53, 54, 55, 56] (by decide +kernel) (by decide +kernel)
set_option maxRecDepth 20000 in
theorem gX13_maySteal_X13_hasIt : GoodIn wsX13_maySteal (wsV RX13 361 RX13 yX13_hasIt wsX13_hasIt) := goodIn_app (goodIn_of _ (by decide +kernel)) ggX13_maySteal_X13_hasIt
theorem dX13_maySteal_0 : decode cX13_maySteal 0 = .ok (.aload_n 0, 1) := by decide +kernel
theorem dX13_maySteal_1 : decode cX13_maySteal 1 = .ok (.iload_n 2, 1) := by decide +kernel
theorem dX13_maySteal_2 : decode cX13_maySteal 2 = .ok (.iconst 0, 1) := by decide +kernel
theorem dX13_maySteal_3 : decode cX13_maySteal 3 = .ok (.invokevirtual 323, 3) := by decide +kernel
theorem dX13_maySteal_6 : decode cX13_maySteal 6 = .ok (.istore 4, 2) := by decide +kernel
theorem dX13_maySteal_8 : decode cX13_maySteal 8 = .ok (.iload 4, 2) := by decide +kernel
theorem dX13_maySteal_10 : decode cX13_maySteal 10 = .ok (.iconst 1, 1) := by decide +kernel
theorem dX13_maySteal_11 : decode cX13_maySteal 11 = .ok (.if_icmp .eq 23, 3) := by decide +kernel
theorem dX13_maySteal_14 : decode cX13_maySteal 14 = .ok (.aload_n 0, 1) := by decide +kernel
theorem dX13_maySteal_15 : decode cX13_maySteal 15 = .ok (.iload_n 2, 1) := by decide +kernel
theorem dX13_maySteal_16 : decode cX13_maySteal 16 = .ok (.iconst 3, 1) := by decide +kernel
theorem dX13_maySteal_17 : decode cX13_maySteal 17 = .ok (.invokevirtual 323, 3) := by decide +kernel
theorem dX13_maySteal_20 : decode cX13_maySteal 20 = .ok (.aload_n 0, 1) := by decide +kernel
theorem dX13_maySteal_21 : decode cX13_maySteal 21 = .ok (.getfield 125, 3) := by decide +kernel
theorem dX13_maySteal_24 : decode cX13_maySteal 24 = .ok (.iload_n 1, 1) := by decide +kernel
theorem dX13_maySteal_25 : decode cX13_maySteal 25 = .ok (.iconst 1, 1) := by decide +kernel
theorem dX13_maySteal_26 : decode cX13_maySteal 26 = .ok (.iadd, 1) := by decide +kernel
theorem dX13_maySteal_27 : decode cX13_maySteal 27 = .ok (.iaload, 1) := by decide +kernel
theorem dX13_maySteal_28 : decode cX13_maySteal 28 = .ok (.iconst (-1), 1) := by decide +kernel
theorem dX13_maySteal_29 : decode cX13_maySteal 29 = .ok (.ixor, 1) := by decide +kernel
theorem dX13_maySteal_30 : decode cX13_maySteal 30 = .ok (.iand, 1) := by decide +kernel
theorem dX13_maySteal_31 : decode cX13_maySteal 31 = .ok (.ifCond .eq 7, 3) := by decide +kernel
theorem dX13_maySteal_34 : decode cX13_maySteal 34 = .ok (.iconst 1, 1) := by decide +kernel
theorem dX13_maySteal_35 : decode cX13_maySteal 35 = .ok (.goto 4, 3) := by decide +kernel
theorem dX13_maySteal_38 : decode cX13_maySteal 38 = .ok (.iconst 0, 1) := by decide +kernel
theorem dX13_maySteal_39 : decode cX13_maySteal 39 = .ok (.istore 5, 2) := by decide +kernel
theorem dX13_maySteal_41 : decode cX13_maySteal 41 = .ok (.iload 4, 2) := by decide +kernel
theorem dX13_maySteal_43 : decode cX13_maySteal 43 = .ok (.iconst 3, 1) := by decide +kernel
theorem dX13_maySteal_44 : decode cX13_maySteal 44 = .ok (.if_icmp .eq 22, 3) := by decide +kernel
theorem dX13_maySteal_47 : decode cX13_maySteal 47 = .ok (.iload 5, 2) := by decide +kernel
theorem dX13_maySteal_49 : decode cX13_maySteal 49 = .ok (.ifCond .eq 17, 3) := by decide +kernel
theorem dX13_maySteal_52 : decode cX13_maySteal 52 = .ok (.aload_n 0, 1) := by decide +kernel
theorem dX13_maySteal_53 : decode cX13_maySteal 53 = .ok (.iload_n 1, 1) := by decide +kernel
theorem dX13_maySteal_54 : decode cX13_maySteal 54 = .ok (.iload_n 2, 1) := by decide +kernel
theorem dX13_maySteal_55 : decode cX13_maySteal 55 = .ok (.iload_n 3, 1) := by decide +kernel
theorem dX13_maySteal_56 : decode cX13_maySteal 56 = .ok (.invokevirtual 361, 3) := by decide +kernel
theorem dX13_maySteal_59 : decode cX13_maySteal 59 = .ok (.ifCond .eq 7, 3) := by decide +kernel
theorem dX13_maySteal_62 : decode cX13_maySteal 62 = .ok (.iconst 1, 1) := by decide +kernel
theorem dX13_maySteal_63 : decode cX13_maySteal 63 = .ok (.goto 4, 3) := by decide +kernel
theorem dX13_maySteal_66 : decode cX13_maySteal 66 = .ok (.iconst 0, 1) := by decide +kernel
theorem dX13_maySteal_67 : decode cX13_maySteal 67 = .ok (.ireturn, 1) := by decide +kernel
set_option maxRecDepth 20000 in
theorem ggX13_steals_X13_hanging : GoodIn wsX13_steals wsX13_hanging := goodIn_r _ [6, 1, 12, 13, 14, 15, 16, 17, 18, 19, 20, 21, 22, 23, 24, 25, 26, 27, 28, 29, 30, 31, 32, 33, 34, 35, 36, 37, 38, 39, 40, 41, 42, 43, 44, 45, 46, 47, 48, 49, 50, 51, 52] (by decide +kernel) (by decide +kernel)
set_option maxRecDepth 20000 in
theorem gX13_steals_X13_hanging : GoodIn wsX13_steals (wsV RX13 364 RX13 yX13_hanging wsX13_hanging) := goodIn_app (goodIn_of _ (by decide +kernel)) ggX13_steals_X13_hanging
set_option maxRecDepth 20000 in
theorem ggX13_steals_X13_thiefOf : GoodIn wsX13_steals wsX13_thiefOf := goodIn_r _ [10, 11, 12, 13, 14, 15, 16, 17, 18, 19, 20, 21, 22, 23, 24, 25, 26, 27, 28, 29, 30, 31, 32, 33, 34, 35, 36, 37, 38, 39, 40, 41, 42, 43, 44, 45, 46, 47, 48, 49, 50, 51, 52] (by decide +kernel) (by decide +kernel)
set_option maxRecDepth 20000 in
theorem gX13_steals_X13_thiefOf : GoodIn wsX13_steals (wsV RX13 323 RX13 yX13_thiefOf wsX13_thiefOf) := goodIn_app (goodIn_of _ (by decide +kernel)) ggX13_steals_X13_thiefOf
theorem dX13_steals_0 : decode cX13_steals 0 = .ok (.aload_n 0, 1) := by decide +kernel
theorem dX13_steals_1 : decode cX13_steals 1 = .ok (.iload_n 1, 1) := by decide +kernel
theorem dX13_steals_2 : decode cX13_steals 2 = .ok (.invokevirtual 364, 3) := by decide +kernel
theorem dX13_steals_5 : decode cX13_steals 5 = .ok (.istore 4, 2) := by decide +kernel
theorem dX13_steals_7 : decode cX13_steals 7 = .ok (.aload_n 0, 1) := by decide +kernel
theorem dX13_steals_8 : decode cX13_steals 8 = .ok (.getfield 125, 3) := by decide +kernel
theorem dX13_steals_11 : decode cX13_steals 11 = .ok (.iload_n 1, 1) := by decide +kernel
theorem dX13_steals_12 : decode cX13_steals 12 = .ok (.bipush 11, 2) := by decide +kernel
theorem dX13_steals_14 : decode cX13_steals 14 = .ok (.iadd, 1) := by decide +kernel
theorem dX13_steals_15 : decode cX13_steals 15 = .ok (.iload_n 3, 1) := by decide +kernel
theorem dX13_steals_16 : decode cX13_steals 16 = .ok (.iadd, 1) := by decide +kernel
theorem dX13_steals_17 : decode cX13_steals 17 = .ok (.iconst 5, 1) := by decide +kernel
theorem dX13_steals_18 : decode cX13_steals 18 = .ok (.iastore, 1) := by decide +kernel
theorem dX13_steals_19 : decode cX13_steals 19 = .ok (.aload_n 0, 1) := by decide +kernel
theorem dX13_steals_20 : decode cX13_steals 20 = .ok (.getfield 125, 3) := by decide +kernel
theorem dX13_steals_23 : decode cX13_steals 23 = .ok (.iload_n 1, 1) := by decide +kernel
theorem dX13_steals_24 : decode cX13_steals 24 = .ok (.bipush 11, 2) := by decide +kernel
theorem dX13_steals_26 : decode cX13_steals 26 = .ok (.iadd, 1) := by decide +kernel
theorem dX13_steals_27 : decode cX13_steals 27 = .ok (.iload 4, 2) := by decide +kernel
theorem dX13_steals_29 : decode cX13_steals 29 = .ok (.iadd, 1) := by decide +kernel
theorem dX13_steals_30 : decode cX13_steals 30 = .ok (.iload_n 2, 1) := by decide +kernel
theorem dX13_steals_31 : decode cX13_steals 31 = .ok (.iastore, 1) := by decide +kernel
theorem dX13_steals_32 : decode cX13_steals 32 = .ok (.aload_n 0, 1) := by decide +kernel
theorem dX13_steals_33 : decode cX13_steals 33 = .ok (.getfield 125, 3) := by decide +kernel
theorem dX13_steals_36 : decode cX13_steals 36 = .ok (.iload_n 1, 1) := by decide +kernel
theorem dX13_steals_37 : decode cX13_steals 37 = .ok (.iconst 3, 1) := by decide +kernel
theorem dX13_steals_38 : decode cX13_steals 38 = .ok (.iadd, 1) := by decide +kernel
theorem dX13_steals_39 : decode cX13_steals 39 = .ok (.iload 4, 2) := by decide +kernel
theorem dX13_steals_41 : decode cX13_steals 41 = .ok (.iadd, 1) := by decide +kernel
theorem dX13_steals_42 : decode cX13_steals 42 = .ok (.iaload, 1) := by decide +kernel
theorem dX13_steals_43 : decode cX13_steals 43 = .ok (.istore 5, 2) := by decide +kernel
theorem dX13_steals_45 : decode cX13_steals 45 = .ok (.aload_n 0, 1) := by decide +kernel
theorem dX13_steals_46 : decode cX13_steals 46 = .ok (.iload_n 2, 1) := by decide +kernel
theorem dX13_steals_47 : decode cX13_steals 47 = .ok (.iconst 0, 1) := by decide +kernel
theorem dX13_steals_48 : decode cX13_steals 48 = .ok (.invokevirtual 323, 3) := by decide +kernel
theorem dX13_steals_51 : decode cX13_steals 51 = .ok (.iconst 2, 1) := by decide +kernel
theorem dX13_steals_52 : decode cX13_steals 52 = .ok (.if_icmp .ne 21, 3) := by decide +kernel
theorem dX13_steals_55 : decode cX13_steals 55 = .ok (.aload_n 0, 1) := by decide +kernel
theorem dX13_steals_56 : decode cX13_steals 56 = .ok (.getfield 125, 3) := by decide +kernel
theorem dX13_steals_59 : decode cX13_steals 59 = .ok (.iload_n 1, 1) := by decide +kernel
theorem dX13_steals_60 : decode cX13_steals 60 = .ok (.iconst 3, 1) := by decide +kernel
theorem dX13_steals_61 : decode cX13_steals 61 = .ok (.iadd, 1) := by decide +kernel
theorem dX13_steals_62 : decode cX13_steals 62 = .ok (.iload 4, 2) := by decide +kernel
theorem dX13_steals_64 : decode cX13_steals 64 = .ok (.iadd, 1) := by decide +kernel
theorem dX13_steals_65 : decode cX13_steals 65 = .ok (.iload 5, 2) := by decide +kernel
theorem dX13_steals_67 : decode cX13_steals 67 = .ok (.iload 5, 2) := by decide +kernel
theorem dX13_steals_69 : decode cX13_steals 69 = .ok (.iconst 1, 1) := by decide +kernel
theorem dX13_steals_70 : decode cX13_steals 70 = .ok (.isub, 1) := by decide +kernel
theorem dX13_steals_71 : decode cX13_steals 71 = .ok (.iand, 1) := by decide +kernel
theorem dX13_steals_72 : decode cX13_steals 72 = .ok (.iastore, 1) := by decide +kernel
theorem dX13_steals_73 : decode cX13_steals 73 = .ok (.iload 4, 2) := by decide +kernel
theorem dX13_steals_75 : decode cX13_steals 75 = .ok (.ireturn, 1) := by decide +kernel
set_option maxRecDepth 20000 in
theorem ggX13_steal_X13_isThief : GoodIn wsX13_steal wsX13_isThief := goodIn_r _ [6, 7, 8, 9, 5, 10, 11, 46, 47, 48, 49, 50, 51, 52, 53, 54, 55, 56, 57, 58, 59, 60, 61, 62, 63, 64, 65, 66, 67, 68, 69, 70, 71, 72, 73, 74, 75, 76, 77, 78, 79, 80, 81, 82, 83, 84, 85, 86] (by decide +kernel) (by decide +kernel)
set_option maxRecDepth 20000 in
theorem gX13_steal_X13_isThief : GoodIn wsX13_steal (wsV RX13 355 RX13 yX13_isThief wsX13_isThief) := goodIn_app (goodIn_of _ (by decide +kernel)) ggX13_steal_X13_isThief
set_option maxRecDepth 20000 in
theorem ggX13_steal_X13_maySteal : GoodIn wsX13_steal wsX13_maySteal := goodIn_r _ [15, 16, 17, 18, 19, 5, 20, 11, 21, 22, 23, 24, 25, 26, 27, 28, 46, 47, 48, 49, 50, 51, 52, 53, 54, 55, 56, 57, 58, 59, 60, 61, 62, 63, 64, 65, 66, 67, 68, 69, 70, 71, 72, 73, 74, 75, 76, 77, 78, 79, 80, 81, 82, 83, 84, 85, 86] (by decide +kernel) (by decide +kernel)
set_option maxRecDepth 20000 in
theorem gX13_steal_X13_maySteal : GoodIn wsX13_steal (wsV RX13 367 RX13 yX13_maySteal wsX13_maySteal) := goodIn_app (goodIn_of _ (by decide +kernel)) ggX13_steal_X13_maySteal
set_option maxRecDepth 20000 in
theorem ggX13_steal_X13_keeps : GoodIn wsX13_steal wsX13_keeps := goodIn_r _ [32, 33, 34, 35, 36, 5, 37, 16, 46, 47, 48, 49, 50, 51, 52, 53, 54, 55, 56, 57, 58, 59, 60, 61, 62, 63, 64, 65, 66, 67, 68, 69, 70, 71, 72, 73, 74, 75, 76, 77, 78, 79, 80, 81, 82, 83, 84, 85, 86] (by decide +kernel) (by decide +kernel)
set_option maxRecDepth 20000 in
theorem gX13_steal_X13_keeps : GoodIn wsX13_steal (wsV RX13 370 RX13 yX13_keeps wsX13_keeps) := goodIn_app (goodIn_of _ (by decide +kernel)) ggX13_steal_X13_keeps
set_option maxRecDepth 20000 in
theorem ggX13_steal_X13_steals : GoodIn wsX13_steal wsX13_steals := goodIn_r _ [41, 16, 42, 43, 44, 5, 45, 17, 18, 19, 20, 11, 46, 47, 48, 49, 50, 51, 52, 53, 54, 55, 56, 57, 58, 59, 60, 61, 62, 63, 64, 65, 66, 67, 68, 69, 70, 71, 72, 73, 74, 75, 76, 77, 78, 79, 80, 81, 82, 83, 84, 85, 86] (by decide +kernel) (by decide +kernel)
set_option maxRecDepth 20000 in
theorem gX13_steal_X13_steals : GoodIn wsX13_steal (wsV RX13 373 RX13 yX13_steals wsX13_steals) := goodIn_app (goodIn_of _ (by decide +kernel)) ggX13_steal_X13_steals
theorem dX13_steal_0 : decode cX13_steal 0 = .ok (.aload_n 0, 1) := by decide +kernel
theorem dX13_steal_1 : decode cX13_steal 1 = .ok (.iconst 0, 1) := by decide +kernel
theorem dX13_steal_2 : decode cX13_steal 2 = .ok (.putfield 1, 3) := by decide +kernel
theorem dX13_steal_5 : decode cX13_steal 5 = .ok (.aload_n 0, 1) := by decide +kernel
theorem dX13_steal_6 : decode cX13_steal 6 = .ok (.iload_n 1, 1) := by decide +kernel
theorem dX13_steal_7 : decode cX13_steal 7 = .ok (.invokevirtual 355, 3) := by decide +kernel
theorem dX13_steal_10 : decode cX13_steal 10 = .ok (.ifCond .eq 13, 3) := by decide +kernel
theorem dX13_steal_13 : decode cX13_steal 13 = .ok (.aload_n 0, 1) := by decide +kernel
theorem dX13_steal_14 : decode cX13_steal 14 = .ok (.iconst 0, 1) := by decide +kernel
theorem dX13_steal_15 : decode cX13_steal 15 = .ok (.iload_n 1, 1) := by decide +kernel
theorem dX13_steal_16 : decode cX13_steal 16 = .ok (.iload_n 2, 1) := by decide +kernel
theorem dX13_steal_17 : decode cX13_steal 17 = .ok (.invokevirtual 367, 3) := by decide +kernel
theorem dX13_steal_20 : decode cX13_steal 20 = .ok (.ifCond .ne 5, 3) := by decide +kernel
theorem dX13_steal_23 : decode cX13_steal 23 = .ok (.iconst (-1), 1) := by decide +kernel
theorem dX13_steal_24 : decode cX13_steal 24 = .ok (.ireturn, 1) := by decide +kernel
theorem dX13_steal_25 : decode cX13_steal 25 = .ok (.aload_n 0, 1) := by decide +kernel
theorem dX13_steal_26 : decode cX13_steal 26 = .ok (.invokevirtual 370, 3) := by decide +kernel
theorem dX13_steal_29 : decode cX13_steal 29 = .ok (.aload_n 0, 1) := by decide +kernel
theorem dX13_steal_30 : decode cX13_steal 30 = .ok (.iconst 0, 1) := by decide +kernel
theorem dX13_steal_31 : decode cX13_steal 31 = .ok (.iload_n 1, 1) := by decide +kernel
theorem dX13_steal_32 : decode cX13_steal 32 = .ok (.iload_n 2, 1) := by decide +kernel
theorem dX13_steal_33 : decode cX13_steal 33 = .ok (.invokevirtual 373, 3) := by decide +kernel
theorem dX13_steal_36 : decode cX13_steal 36 = .ok (.ireturn, 1) := by decide +kernel
set_option maxRecDepth 20000 in
theorem ggX13_mayPaint_X13_isPiece : GoodIn wsX13_mayPaint wsX13_isPiece := goodIn_r _ [6, 1, 30, 31, 32, 33, 34, 35, 36, 37, 38, 39, 40, 41, 42, 43, 44, 45, 46, 47, 48, 49, 50, 51, 52, 53, 54, 55, 56, 57, 58, 59, 60, 61, 62, 63, 64, 65, 66, 67, 68, 69, 70] (by decide +kernel) (by decide +kernel)
set_option maxRecDepth 20000 in
theorem gX13_mayPaint_X13_isPiece : GoodIn wsX13_mayPaint (wsV RX13 345 RX13 yX13_isPiece wsX13_isPiece) := goodIn_app (goodIn_of _ (by decide +kernel)) ggX13_mayPaint_X13_isPiece
set_option maxRecDepth 20000 in
theorem ggX13_mayPaint_X13_thiefOf : GoodIn wsX13_mayPaint wsX13_thiefOf := goodIn_r _ [10, 11, 30, 31, 32, 33, 34, 35, 36, 37, 38, 39, 40, 41, 42, 43, 44, 45, 46, 47, 48, 49, 50, 51, 52, 53, 54, 55, 56, 57, 58, 59, 60, 61, 62, 63, 64, 65, 66, 67, 68, 69, 70] (by decide +kernel) (by decide +kernel)
set_option maxRecDepth 20000 in
theorem gX13_mayPaint_X13_thiefOf : GoodIn wsX13_mayPaint (wsV RX13 323 RX13 yX13_thiefOf wsX13_thiefOf) := goodIn_app (goodIn_of _ (by decide +kernel)) ggX13_mayPaint_X13_thiefOf
set_option maxRecDepth 20000 in
theorem ggX13_mayPaint_X13_hardOf : GoodIn wsX13_mayPaint wsX13_hardOf := goodIn_r _ [15, 16, 1, 11, 17, 18, 5, 19, 20, 21, 22, 23, 24, 25, 26, 27, 28, 29, 30, 31, 32, 33, 34, 35, 36, 37, 38, 39, 40, 41, 42, 43, 44, 45, 46, 47, 48, 49, 50, 51, 52, 53, 54, 55, 56, 57, 58, 59, 60, 61, 62, 63, 64, 65, 66, 67, 68, 69, 70] (by decide +kernel) (by decide +kernel)
set_option maxRecDepth 20000 in
theorem gX13_mayPaint_X13_hardOf : GoodIn wsX13_mayPaint (wsV RX13 376 RX13 yX13_hardOf wsX13_hardOf) := goodIn_app (goodIn_of _ (by decide +kernel)) ggX13_mayPaint_X13_hardOf
theorem dX13_mayPaint_0 : decode cX13_mayPaint 0 = .ok (.aload_n 0, 1) := by decide +kernel
theorem dX13_mayPaint_1 : decode cX13_mayPaint 1 = .ok (.iload_n 1, 1) := by decide +kernel
theorem dX13_mayPaint_2 : decode cX13_mayPaint 2 = .ok (.iload_n 3, 1) := by decide +kernel
theorem dX13_mayPaint_3 : decode cX13_mayPaint 3 = .ok (.invokevirtual 345, 3) := by decide +kernel
theorem dX13_mayPaint_6 : decode cX13_mayPaint 6 = .ok (.ifCond .eq 36, 3) := by decide +kernel
theorem dX13_mayPaint_9 : decode cX13_mayPaint 9 = .ok (.aload_n 0, 1) := by decide +kernel
theorem dX13_mayPaint_10 : decode cX13_mayPaint 10 = .ok (.getfield 125, 3) := by decide +kernel
theorem dX13_mayPaint_13 : decode cX13_mayPaint 13 = .ok (.iload_n 1, 1) := by decide +kernel
theorem dX13_mayPaint_14 : decode cX13_mayPaint 14 = .ok (.bipush 11, 2) := by decide +kernel
theorem dX13_mayPaint_16 : decode cX13_mayPaint 16 = .ok (.iadd, 1) := by decide +kernel
theorem dX13_mayPaint_17 : decode cX13_mayPaint 17 = .ok (.iload_n 3, 1) := by decide +kernel
theorem dX13_mayPaint_18 : decode cX13_mayPaint 18 = .ok (.iadd, 1) := by decide +kernel
theorem dX13_mayPaint_19 : decode cX13_mayPaint 19 = .ok (.iaload, 1) := by decide +kernel
theorem dX13_mayPaint_20 : decode cX13_mayPaint 20 = .ok (.aload_n 0, 1) := by decide +kernel
theorem dX13_mayPaint_21 : decode cX13_mayPaint 21 = .ok (.iload_n 2, 1) := by decide +kernel
theorem dX13_mayPaint_22 : decode cX13_mayPaint 22 = .ok (.iconst 0, 1) := by decide +kernel
theorem dX13_mayPaint_23 : decode cX13_mayPaint 23 = .ok (.invokevirtual 323, 3) := by decide +kernel
theorem dX13_mayPaint_26 : decode cX13_mayPaint 26 = .ok (.iconst 3, 1) := by decide +kernel
theorem dX13_mayPaint_27 : decode cX13_mayPaint 27 = .ok (.if_icmp .ne 7, 3) := by decide +kernel
theorem dX13_mayPaint_30 : decode cX13_mayPaint 30 = .ok (.iconst 5, 1) := by decide +kernel
theorem dX13_mayPaint_31 : decode cX13_mayPaint 31 = .ok (.goto 4, 3) := by decide +kernel
theorem dX13_mayPaint_34 : decode cX13_mayPaint 34 = .ok (.iload_n 2, 1) := by decide +kernel
theorem dX13_mayPaint_35 : decode cX13_mayPaint 35 = .ok (.if_icmp .ne 7, 3) := by decide +kernel
theorem dX13_mayPaint_38 : decode cX13_mayPaint 38 = .ok (.iconst 1, 1) := by decide +kernel
theorem dX13_mayPaint_39 : decode cX13_mayPaint 39 = .ok (.goto 4, 3) := by decide +kernel
theorem dX13_mayPaint_42 : decode cX13_mayPaint 42 = .ok (.iconst 0, 1) := by decide +kernel
theorem dX13_mayPaint_43 : decode cX13_mayPaint 43 = .ok (.istore 5, 2) := by decide +kernel
theorem dX13_mayPaint_45 : decode cX13_mayPaint 45 = .ok (.iload 5, 2) := by decide +kernel
theorem dX13_mayPaint_47 : decode cX13_mayPaint 47 = .ok (.ifCond .eq 37, 3) := by decide +kernel
theorem dX13_mayPaint_50 : decode cX13_mayPaint 50 = .ok (.aload_n 0, 1) := by decide +kernel
theorem dX13_mayPaint_51 : decode cX13_mayPaint 51 = .ok (.getfield 125, 3) := by decide +kernel
theorem dX13_mayPaint_54 : decode cX13_mayPaint 54 = .ok (.iload_n 1, 1) := by decide +kernel
theorem dX13_mayPaint_55 : decode cX13_mayPaint 55 = .ok (.iconst 2, 1) := by decide +kernel
theorem dX13_mayPaint_56 : decode cX13_mayPaint 56 = .ok (.iadd, 1) := by decide +kernel
theorem dX13_mayPaint_57 : decode cX13_mayPaint 57 = .ok (.iaload, 1) := by decide +kernel
theorem dX13_mayPaint_58 : decode cX13_mayPaint 58 = .ok (.bipush 8, 2) := by decide +kernel
theorem dX13_mayPaint_60 : decode cX13_mayPaint 60 = .ok (.if_icmp .ge 24, 3) := by decide +kernel
theorem dX13_mayPaint_63 : decode cX13_mayPaint 63 = .ok (.aload_n 0, 1) := by decide +kernel
theorem dX13_mayPaint_64 : decode cX13_mayPaint 64 = .ok (.iload_n 2, 1) := by decide +kernel
theorem dX13_mayPaint_65 : decode cX13_mayPaint 65 = .ok (.iconst 1, 1) := by decide +kernel
theorem dX13_mayPaint_66 : decode cX13_mayPaint 66 = .ok (.invokevirtual 323, 3) := by decide +kernel
theorem dX13_mayPaint_69 : decode cX13_mayPaint 69 = .ok (.aload_n 0, 1) := by decide +kernel
theorem dX13_mayPaint_70 : decode cX13_mayPaint 70 = .ok (.iload_n 1, 1) := by decide +kernel
theorem dX13_mayPaint_71 : decode cX13_mayPaint 71 = .ok (.iload_n 3, 1) := by decide +kernel
theorem dX13_mayPaint_72 : decode cX13_mayPaint 72 = .ok (.iload 4, 2) := by decide +kernel
theorem dX13_mayPaint_74 : decode cX13_mayPaint 74 = .ok (.invokevirtual 376, 3) := by decide +kernel
theorem dX13_mayPaint_77 : decode cX13_mayPaint 77 = .ok (.if_icmp .lt 7, 3) := by decide +kernel
theorem dX13_mayPaint_80 : decode cX13_mayPaint 80 = .ok (.iconst 1, 1) := by decide +kernel
theorem dX13_mayPaint_81 : decode cX13_mayPaint 81 = .ok (.goto 4, 3) := by decide +kernel
theorem dX13_mayPaint_84 : decode cX13_mayPaint 84 = .ok (.iconst 0, 1) := by decide +kernel
theorem dX13_mayPaint_85 : decode cX13_mayPaint 85 = .ok (.ireturn, 1) := by decide +kernel
theorem dX13_paints_0 : decode cX13_paints 0 = .ok (.aload_n 0, 1) := by decide +kernel
theorem dX13_paints_1 : decode cX13_paints 1 = .ok (.getfield 125, 3) := by decide +kernel
theorem dX13_paints_4 : decode cX13_paints 4 = .ok (.iload_n 1, 1) := by decide +kernel
theorem dX13_paints_5 : decode cX13_paints 5 = .ok (.iconst 2, 1) := by decide +kernel
theorem dX13_paints_6 : decode cX13_paints 6 = .ok (.iadd, 1) := by decide +kernel
theorem dX13_paints_7 : decode cX13_paints 7 = .ok (.iaload, 1) := by decide +kernel
theorem dX13_paints_8 : decode cX13_paints 8 = .ok (.istore 5, 2) := by decide +kernel
theorem dX13_paints_10 : decode cX13_paints 10 = .ok (.aload_n 0, 1) := by decide +kernel
theorem dX13_paints_11 : decode cX13_paints 11 = .ok (.getfield 125, 3) := by decide +kernel
theorem dX13_paints_14 : decode cX13_paints 14 = .ok (.iload_n 1, 1) := by decide +kernel
theorem dX13_paints_15 : decode cX13_paints 15 = .ok (.iconst 3, 1) := by decide +kernel
theorem dX13_paints_16 : decode cX13_paints 16 = .ok (.iadd, 1) := by decide +kernel
theorem dX13_paints_17 : decode cX13_paints 17 = .ok (.iload 5, 2) := by decide +kernel
theorem dX13_paints_19 : decode cX13_paints 19 = .ok (.iadd, 1) := by decide +kernel
theorem dX13_paints_20 : decode cX13_paints 20 = .ok (.aload_n 0, 1) := by decide +kernel
theorem dX13_paints_21 : decode cX13_paints 21 = .ok (.getfield 125, 3) := by decide +kernel
theorem dX13_paints_24 : decode cX13_paints 24 = .ok (.iload_n 1, 1) := by decide +kernel
theorem dX13_paints_25 : decode cX13_paints 25 = .ok (.iconst 3, 1) := by decide +kernel
theorem dX13_paints_26 : decode cX13_paints 26 = .ok (.iadd, 1) := by decide +kernel
theorem dX13_paints_27 : decode cX13_paints 27 = .ok (.iload_n 3, 1) := by decide +kernel
theorem dX13_paints_28 : decode cX13_paints 28 = .ok (.iadd, 1) := by decide +kernel
theorem dX13_paints_29 : decode cX13_paints 29 = .ok (.iaload, 1) := by decide +kernel
theorem dX13_paints_30 : decode cX13_paints 30 = .ok (.iconst 1, 1) := by decide +kernel
theorem dX13_paints_31 : decode cX13_paints 31 = .ok (.iload 4, 2) := by decide +kernel
theorem dX13_paints_33 : decode cX13_paints 33 = .ok (.ishl, 1) := by decide +kernel
theorem dX13_paints_34 : decode cX13_paints 34 = .ok (.ixor, 1) := by decide +kernel
theorem dX13_paints_35 : decode cX13_paints 35 = .ok (.iastore, 1) := by decide +kernel
theorem dX13_paints_36 : decode cX13_paints 36 = .ok (.aload_n 0, 1) := by decide +kernel
theorem dX13_paints_37 : decode cX13_paints 37 = .ok (.getfield 125, 3) := by decide +kernel
theorem dX13_paints_40 : decode cX13_paints 40 = .ok (.iload_n 1, 1) := by decide +kernel
theorem dX13_paints_41 : decode cX13_paints 41 = .ok (.bipush 11, 2) := by decide +kernel
theorem dX13_paints_43 : decode cX13_paints 43 = .ok (.iadd, 1) := by decide +kernel
theorem dX13_paints_44 : decode cX13_paints 44 = .ok (.iload 5, 2) := by decide +kernel
theorem dX13_paints_46 : decode cX13_paints 46 = .ok (.iadd, 1) := by decide +kernel
theorem dX13_paints_47 : decode cX13_paints 47 = .ok (.iload_n 2, 1) := by decide +kernel
theorem dX13_paints_48 : decode cX13_paints 48 = .ok (.iastore, 1) := by decide +kernel
theorem dX13_paints_49 : decode cX13_paints 49 = .ok (.aload_n 0, 1) := by decide +kernel
theorem dX13_paints_50 : decode cX13_paints 50 = .ok (.getfield 125, 3) := by decide +kernel
theorem dX13_paints_53 : decode cX13_paints 53 = .ok (.iload_n 1, 1) := by decide +kernel
theorem dX13_paints_54 : decode cX13_paints 54 = .ok (.bipush 19, 2) := by decide +kernel
theorem dX13_paints_56 : decode cX13_paints 56 = .ok (.iadd, 1) := by decide +kernel
theorem dX13_paints_57 : decode cX13_paints 57 = .ok (.iload 5, 2) := by decide +kernel
theorem dX13_paints_59 : decode cX13_paints 59 = .ok (.iadd, 1) := by decide +kernel
theorem dX13_paints_60 : decode cX13_paints 60 = .ok (.iconst 0, 1) := by decide +kernel
theorem dX13_paints_61 : decode cX13_paints 61 = .ok (.iastore, 1) := by decide +kernel
theorem dX13_paints_62 : decode cX13_paints 62 = .ok (.aload_n 0, 1) := by decide +kernel
theorem dX13_paints_63 : decode cX13_paints 63 = .ok (.getfield 125, 3) := by decide +kernel
theorem dX13_paints_66 : decode cX13_paints 66 = .ok (.iload_n 1, 1) := by decide +kernel
theorem dX13_paints_67 : decode cX13_paints 67 = .ok (.bipush 27, 2) := by decide +kernel
theorem dX13_paints_69 : decode cX13_paints 69 = .ok (.iadd, 1) := by decide +kernel
theorem dX13_paints_70 : decode cX13_paints 70 = .ok (.iload 5, 2) := by decide +kernel
theorem dX13_paints_72 : decode cX13_paints 72 = .ok (.iadd, 1) := by decide +kernel
theorem dX13_paints_73 : decode cX13_paints 73 = .ok (.iload_n 3, 1) := by decide +kernel
theorem dX13_paints_74 : decode cX13_paints 74 = .ok (.iastore, 1) := by decide +kernel
theorem dX13_paints_75 : decode cX13_paints 75 = .ok (.aload_n 0, 1) := by decide +kernel
theorem dX13_paints_76 : decode cX13_paints 76 = .ok (.getfield 125, 3) := by decide +kernel
theorem dX13_paints_79 : decode cX13_paints 79 = .ok (.iload_n 1, 1) := by decide +kernel
theorem dX13_paints_80 : decode cX13_paints 80 = .ok (.bipush 35, 2) := by decide +kernel
theorem dX13_paints_82 : decode cX13_paints 82 = .ok (.iadd, 1) := by decide +kernel
theorem dX13_paints_83 : decode cX13_paints 83 = .ok (.iload 5, 2) := by decide +kernel
theorem dX13_paints_85 : decode cX13_paints 85 = .ok (.iadd, 1) := by decide +kernel
theorem dX13_paints_86 : decode cX13_paints 86 = .ok (.iload 4, 2) := by decide +kernel
theorem dX13_paints_88 : decode cX13_paints 88 = .ok (.iastore, 1) := by decide +kernel
theorem dX13_paints_89 : decode cX13_paints 89 = .ok (.aload_n 0, 1) := by decide +kernel
theorem dX13_paints_90 : decode cX13_paints 90 = .ok (.getfield 125, 3) := by decide +kernel
theorem dX13_paints_93 : decode cX13_paints 93 = .ok (.iload_n 1, 1) := by decide +kernel
theorem dX13_paints_94 : decode cX13_paints 94 = .ok (.iconst 2, 1) := by decide +kernel
theorem dX13_paints_95 : decode cX13_paints 95 = .ok (.iadd, 1) := by decide +kernel
theorem dX13_paints_96 : decode cX13_paints 96 = .ok (.dup2, 1) := by decide +kernel
theorem dX13_paints_97 : decode cX13_paints 97 = .ok (.iaload, 1) := by decide +kernel
theorem dX13_paints_98 : decode cX13_paints 98 = .ok (.iconst 1, 1) := by decide +kernel
theorem dX13_paints_99 : decode cX13_paints 99 = .ok (.iadd, 1) := by decide +kernel
theorem dX13_paints_100 : decode cX13_paints 100 = .ok (.iastore, 1) := by decide +kernel
theorem dX13_paints_101 : decode cX13_paints 101 = .ok (.iload 5, 2) := by decide +kernel
theorem dX13_paints_103 : decode cX13_paints 103 = .ok (.ireturn, 1) := by decide +kernel
set_option maxRecDepth 20000 in
theorem ggX13_paint_X13_isThief : GoodIn wsX13_paint wsX13_isThief := goodIn_r _ [6, 7, 8, 9, 5, 10, 11, 64, 65, 66, 67, 68, 69, 70, 71, 72, 73, 74, 75, 76, 77, 78, 79, 80, 81, 82, 83, 84, 85, 86, 87, 88, 89, 90, 91, 92, 93, 94, 95, 96, 97, 98, 99, 100, 101, 102, 103, 104] (by decide +kernel) (by decide +kernel)
set_option maxRecDepth 20000 in
theorem gX13_paint_X13_isThief : GoodIn wsX13_paint (wsV RX13 355 RX13 yX13_isThief wsX13_isThief) := goodIn_app (goodIn_of _ (by decide +kernel)) ggX13_paint_X13_isThief
set_option maxRecDepth 20000 in
theorem ggX13_paint_X13_isSpot : GoodIn wsX13_paint wsX13_isSpot := goodIn_r _ [15, 16, 17, 18, 5, 19, 11, 64, 65, 66, 67, 68, 69, 70, 71, 72, 73, 74, 75, 76, 77, 78, 79, 80, 81, 82, 83, 84, 85, 86, 87, 88, 89, 90, 91, 92, 93, 94, 95, 96, 97, 98, 99, 100, 101, 102, 103, 104] (by decide +kernel) (by decide +kernel)
set_option maxRecDepth 20000 in
theorem gX13_paint_X13_isSpot : GoodIn wsX13_paint (wsV RX13 379 RX13 yX13_isSpot wsX13_isSpot) := goodIn_app (goodIn_of _ (by decide +kernel)) ggX13_paint_X13_isSpot
set_option maxRecDepth 20000 in
theorem ggX13_paint_X13_mayPaint : GoodIn wsX13_paint wsX13_mayPaint := goodIn_r _ [23, 24, 25, 26, 27, 5, 28, 29, 30, 31, 32, 11, 33, 34, 35, 36, 37, 38, 39, 40, 41, 42, 43, 44, 45, 46, 47, 48, 49, 50, 64, 65, 66, 67, 68, 69, 70, 71, 72, 73, 74, 75, 76, 77, 78, 79, 80, 81, 82, 83, 84, 85, 86, 87, 88, 89, 90, 91, 92, 93, 94, 95, 96, 97, 98, 99, 100, 101, 102, 103, 104] (by decide +kernel) (by decide +kernel)
set_option maxRecDepth 20000 in
theorem gX13_paint_X13_mayPaint : GoodIn wsX13_paint (wsV RX13 382 RX13 yX13_mayPaint wsX13_mayPaint) := goodIn_app (goodIn_of _ (by decide +kernel)) ggX13_paint_X13_mayPaint
set_option maxRecDepth 20000 in
theorem ggX13_paint_X13_keeps : GoodIn wsX13_paint wsX13_keeps := goodIn_r _ [54, 55, 56, 57, 58, 5, 59, 24, 64, 65, 66, 67, 68, 69, 70, 71, 72, 73, 74, 75, 76, 77, 78, 79, 80, 81, 82, 83, 84, 85, 86, 87, 88, 89, 90, 91, 92, 93, 94, 95, 96, 97, 98, 99, 100, 101, 102, 103, 104] (by decide +kernel) (by decide +kernel)
set_option maxRecDepth 20000 in
theorem gX13_paint_X13_keeps : GoodIn wsX13_paint (wsV RX13 370 RX13 yX13_keeps wsX13_keeps) := goodIn_app (goodIn_of _ (by decide +kernel)) ggX13_paint_X13_keeps
set_option maxRecDepth 20000 in
theorem ggX13_paint_X13_paints : GoodIn wsX13_paint wsX13_paints := goodIn_r _ [63, 24, 64, 65, 66, 67, 68, 69, 70, 71, 72, 73, 74, 75, 76, 77, 78, 79, 80, 81, 82, 83, 84, 85, 86, 87, 88, 89, 90, 91, 92, 93, 94, 95, 96, 97, 98, 99, 100, 101, 102, 103, 104] (by decide +kernel) (by decide +kernel)
set_option maxRecDepth 20000 in
theorem gX13_paint_X13_paints : GoodIn wsX13_paint (wsV RX13 386 RX13 yX13_paints wsX13_paints) := goodIn_app (goodIn_of _ (by decide +kernel)) ggX13_paint_X13_paints
theorem dX13_paint_0 : decode cX13_paint 0 = .ok (.aload_n 0, 1) := by decide +kernel
theorem dX13_paint_1 : decode cX13_paint 1 = .ok (.iconst 0, 1) := by decide +kernel
theorem dX13_paint_2 : decode cX13_paint 2 = .ok (.putfield 1, 3) := by decide +kernel
theorem dX13_paint_5 : decode cX13_paint 5 = .ok (.aload_n 0, 1) := by decide +kernel
theorem dX13_paint_6 : decode cX13_paint 6 = .ok (.iload_n 1, 1) := by decide +kernel
theorem dX13_paint_7 : decode cX13_paint 7 = .ok (.invokevirtual 355, 3) := by decide +kernel
theorem dX13_paint_10 : decode cX13_paint 10 = .ok (.ifCond .eq 22, 3) := by decide +kernel
theorem dX13_paint_13 : decode cX13_paint 13 = .ok (.aload_n 0, 1) := by decide +kernel
theorem dX13_paint_14 : decode cX13_paint 14 = .ok (.iload_n 3, 1) := by decide +kernel
theorem dX13_paint_15 : decode cX13_paint 15 = .ok (.invokevirtual 379, 3) := by decide +kernel
theorem dX13_paint_18 : decode cX13_paint 18 = .ok (.ifCond .eq 14, 3) := by decide +kernel
theorem dX13_paint_21 : decode cX13_paint 21 = .ok (.aload_n 0, 1) := by decide +kernel
theorem dX13_paint_22 : decode cX13_paint 22 = .ok (.iconst 0, 1) := by decide +kernel
theorem dX13_paint_23 : decode cX13_paint 23 = .ok (.iload_n 1, 1) := by decide +kernel
theorem dX13_paint_24 : decode cX13_paint 24 = .ok (.iload_n 2, 1) := by decide +kernel
theorem dX13_paint_25 : decode cX13_paint 25 = .ok (.iload_n 3, 1) := by decide +kernel
theorem dX13_paint_26 : decode cX13_paint 26 = .ok (.invokevirtual 382, 3) := by decide +kernel
theorem dX13_paint_29 : decode cX13_paint 29 = .ok (.ifCond .ne 5, 3) := by decide +kernel
theorem dX13_paint_32 : decode cX13_paint 32 = .ok (.iconst (-1), 1) := by decide +kernel
theorem dX13_paint_33 : decode cX13_paint 33 = .ok (.ireturn, 1) := by decide +kernel
theorem dX13_paint_34 : decode cX13_paint 34 = .ok (.aload_n 0, 1) := by decide +kernel
theorem dX13_paint_35 : decode cX13_paint 35 = .ok (.invokevirtual 370, 3) := by decide +kernel
theorem dX13_paint_38 : decode cX13_paint 38 = .ok (.aload_n 0, 1) := by decide +kernel
theorem dX13_paint_39 : decode cX13_paint 39 = .ok (.iconst 0, 1) := by decide +kernel
theorem dX13_paint_40 : decode cX13_paint 40 = .ok (.iload_n 1, 1) := by decide +kernel
theorem dX13_paint_41 : decode cX13_paint 41 = .ok (.iload_n 2, 1) := by decide +kernel
theorem dX13_paint_42 : decode cX13_paint 42 = .ok (.iload_n 3, 1) := by decide +kernel
theorem dX13_paint_43 : decode cX13_paint 43 = .ok (.invokevirtual 386, 3) := by decide +kernel
theorem dX13_paint_46 : decode cX13_paint 46 = .ok (.ireturn, 1) := by decide +kernel
set_option maxRecDepth 20000 in
theorem ggX13_sells_X13_worthOf : GoodIn wsX13_sells wsX13_worthOf := goodIn_r _ [6, 7, 1, 8, 9, 10, 5, 11, 12, 13, 14, 15, 16, 17, 18, 19, 20, 21, 22, 23, 24, 25, 26, 27, 28, 29, 30, 31, 32, 33, 34, 35, 36, 37, 38, 39, 40, 41, 42, 43, 44, 45, 46, 47, 48, 49, 50, 51, 52, 53, 54, 55, 56, 57, 58, 59, 60, 61, 62] (by decide +kernel) (by decide +kernel)
set_option maxRecDepth 20000 in
theorem gX13_sells_X13_worthOf : GoodIn wsX13_sells (wsV RX13 349 RX13 yX13_worthOf wsX13_worthOf) := goodIn_app (goodIn_of _ (by decide +kernel)) ggX13_sells_X13_worthOf
theorem dX13_sells_0 : decode cX13_sells 0 = .ok (.aload_n 0, 1) := by decide +kernel
theorem dX13_sells_1 : decode cX13_sells 1 = .ok (.iload_n 1, 1) := by decide +kernel
theorem dX13_sells_2 : decode cX13_sells 2 = .ok (.iload_n 3, 1) := by decide +kernel
theorem dX13_sells_3 : decode cX13_sells 3 = .ok (.invokevirtual 349, 3) := by decide +kernel
theorem dX13_sells_6 : decode cX13_sells 6 = .ok (.istore 4, 2) := by decide +kernel
theorem dX13_sells_8 : decode cX13_sells 8 = .ok (.aload_n 0, 1) := by decide +kernel
theorem dX13_sells_9 : decode cX13_sells 9 = .ok (.getfield 125, 3) := by decide +kernel
theorem dX13_sells_12 : decode cX13_sells 12 = .ok (.iload_n 1, 1) := by decide +kernel
theorem dX13_sells_13 : decode cX13_sells 13 = .ok (.bipush 11, 2) := by decide +kernel
theorem dX13_sells_15 : decode cX13_sells 15 = .ok (.iadd, 1) := by decide +kernel
theorem dX13_sells_16 : decode cX13_sells 16 = .ok (.iload_n 3, 1) := by decide +kernel
theorem dX13_sells_17 : decode cX13_sells 17 = .ok (.iadd, 1) := by decide +kernel
theorem dX13_sells_18 : decode cX13_sells 18 = .ok (.bipush 6, 2) := by decide +kernel
theorem dX13_sells_20 : decode cX13_sells 20 = .ok (.iastore, 1) := by decide +kernel
theorem dX13_sells_21 : decode cX13_sells 21 = .ok (.aload_n 0, 1) := by decide +kernel
theorem dX13_sells_22 : decode cX13_sells 22 = .ok (.getfield 125, 3) := by decide +kernel
theorem dX13_sells_25 : decode cX13_sells 25 = .ok (.iload_n 1, 1) := by decide +kernel
theorem dX13_sells_26 : decode cX13_sells 26 = .ok (.bipush 43, 2) := by decide +kernel
theorem dX13_sells_28 : decode cX13_sells 28 = .ok (.iadd, 1) := by decide +kernel
theorem dX13_sells_29 : decode cX13_sells 29 = .ok (.iload_n 2, 1) := by decide +kernel
theorem dX13_sells_30 : decode cX13_sells 30 = .ok (.iadd, 1) := by decide +kernel
theorem dX13_sells_31 : decode cX13_sells 31 = .ok (.dup2, 1) := by decide +kernel
theorem dX13_sells_32 : decode cX13_sells 32 = .ok (.iaload, 1) := by decide +kernel
theorem dX13_sells_33 : decode cX13_sells 33 = .ok (.iload 4, 2) := by decide +kernel
theorem dX13_sells_35 : decode cX13_sells 35 = .ok (.iadd, 1) := by decide +kernel
theorem dX13_sells_36 : decode cX13_sells 36 = .ok (.iastore, 1) := by decide +kernel
theorem dX13_sells_37 : decode cX13_sells 37 = .ok (.iload 4, 2) := by decide +kernel
theorem dX13_sells_39 : decode cX13_sells 39 = .ok (.ireturn, 1) := by decide +kernel
set_option maxRecDepth 20000 in
theorem ggX13_sell_X13_isThief : GoodIn wsX13_sell wsX13_isThief := goodIn_r _ [6, 7, 8, 9, 5, 10, 11, 52, 53, 54, 55, 56, 57, 58, 59, 60, 61, 62, 63, 64, 65, 66, 67, 68, 69, 70, 71, 72, 73, 74, 75, 76, 77, 78, 79, 80, 81, 82, 83, 84, 85, 86, 87, 88, 89, 90, 91, 92] (by decide +kernel) (by decide +kernel)
set_option maxRecDepth 20000 in
theorem gX13_sell_X13_isThief : GoodIn wsX13_sell (wsV RX13 355 RX13 yX13_isThief wsX13_isThief) := goodIn_app (goodIn_of _ (by decide +kernel)) ggX13_sell_X13_isThief
set_option maxRecDepth 20000 in
theorem ggX13_sell_X13_hasIt : GoodIn wsX13_sell wsX13_hasIt := goodIn_r _ [15, 16, 17, 18, 19, 5, 20, 52, 53, 54, 55, 56, 57, 58, 59, 60, 61, 62, 63, 64, 65, 66, 67, 68, 69, 70, 71, 72, 73, 74, 75, 76, 77, 78, 79, 80, 81, 82, 83, 84, 85, 86, 87, 88, 89, 90, 91, 92] (by decide +kernel) (by decide +kernel)
set_option maxRecDepth 20000 in
theorem gX13_sell_X13_hasIt : GoodIn wsX13_sell (wsV RX13 361 RX13 yX13_hasIt wsX13_hasIt) := goodIn_app (goodIn_of _ (by decide +kernel)) ggX13_sell_X13_hasIt
set_option maxRecDepth 20000 in
theorem ggX13_sell_X13_keeps : GoodIn wsX13_sell wsX13_keeps := goodIn_r _ [24, 25, 26, 27, 28, 5, 29, 16, 52, 53, 54, 55, 56, 57, 58, 59, 60, 61, 62, 63, 64, 65, 66, 67, 68, 69, 70, 71, 72, 73, 74, 75, 76, 77, 78, 79, 80, 81, 82, 83, 84, 85, 86, 87, 88, 89, 90, 91, 92] (by decide +kernel) (by decide +kernel)
set_option maxRecDepth 20000 in
theorem gX13_sell_X13_keeps : GoodIn wsX13_sell (wsV RX13 370 RX13 yX13_keeps wsX13_keeps) := goodIn_app (goodIn_of _ (by decide +kernel)) ggX13_sell_X13_keeps
set_option maxRecDepth 20000 in
theorem ggX13_sell_X13_sells : GoodIn wsX13_sell wsX13_sells := goodIn_r _ [33, 16, 34, 35, 36, 5, 37, 38, 11, 39, 40, 41, 42, 43, 44, 45, 46, 47, 48, 49, 50, 51, 52, 53, 54, 55, 56, 57, 58, 59, 60, 61, 62, 63, 64, 65, 66, 67, 68, 69, 70, 71, 72, 73, 74, 75, 76, 77, 78, 79, 80, 81, 82, 83, 84, 85, 86, 87, 88, 89, 90, 91, 92] (by decide +kernel) (by decide +kernel)
set_option maxRecDepth 20000 in
theorem gX13_sell_X13_sells : GoodIn wsX13_sell (wsV RX13 390 RX13 yX13_sells wsX13_sells) := goodIn_app (goodIn_of _ (by decide +kernel)) ggX13_sell_X13_sells
theorem dX13_sell_0 : decode cX13_sell 0 = .ok (.aload_n 0, 1) := by decide +kernel
theorem dX13_sell_1 : decode cX13_sell 1 = .ok (.iconst 0, 1) := by decide +kernel
theorem dX13_sell_2 : decode cX13_sell 2 = .ok (.putfield 1, 3) := by decide +kernel
theorem dX13_sell_5 : decode cX13_sell 5 = .ok (.aload_n 0, 1) := by decide +kernel
theorem dX13_sell_6 : decode cX13_sell 6 = .ok (.iload_n 1, 1) := by decide +kernel
theorem dX13_sell_7 : decode cX13_sell 7 = .ok (.invokevirtual 355, 3) := by decide +kernel
theorem dX13_sell_10 : decode cX13_sell 10 = .ok (.ifCond .eq 13, 3) := by decide +kernel
theorem dX13_sell_13 : decode cX13_sell 13 = .ok (.aload_n 0, 1) := by decide +kernel
theorem dX13_sell_14 : decode cX13_sell 14 = .ok (.iconst 0, 1) := by decide +kernel
theorem dX13_sell_15 : decode cX13_sell 15 = .ok (.iload_n 1, 1) := by decide +kernel
theorem dX13_sell_16 : decode cX13_sell 16 = .ok (.iload_n 2, 1) := by decide +kernel
theorem dX13_sell_17 : decode cX13_sell 17 = .ok (.invokevirtual 361, 3) := by decide +kernel
theorem dX13_sell_20 : decode cX13_sell 20 = .ok (.ifCond .ne 5, 3) := by decide +kernel
theorem dX13_sell_23 : decode cX13_sell 23 = .ok (.iconst (-1), 1) := by decide +kernel
theorem dX13_sell_24 : decode cX13_sell 24 = .ok (.ireturn, 1) := by decide +kernel
theorem dX13_sell_25 : decode cX13_sell 25 = .ok (.aload_n 0, 1) := by decide +kernel
theorem dX13_sell_26 : decode cX13_sell 26 = .ok (.invokevirtual 370, 3) := by decide +kernel
theorem dX13_sell_29 : decode cX13_sell 29 = .ok (.aload_n 0, 1) := by decide +kernel
theorem dX13_sell_30 : decode cX13_sell 30 = .ok (.iconst 0, 1) := by decide +kernel
theorem dX13_sell_31 : decode cX13_sell 31 = .ok (.iload_n 1, 1) := by decide +kernel
theorem dX13_sell_32 : decode cX13_sell 32 = .ok (.iload_n 2, 1) := by decide +kernel
theorem dX13_sell_33 : decode cX13_sell 33 = .ok (.invokevirtual 390, 3) := by decide +kernel
theorem dX13_sell_36 : decode cX13_sell 36 = .ok (.ireturn, 1) := by decide +kernel
set_option maxRecDepth 20000 in
theorem ggX13_guard_X13_within : GoodIn wsX13_guard wsX13_within := goodIn_r _ [6] (by decide +kernel) (by decide +kernel)
set_option maxRecDepth 20000 in
theorem gX13_guard_X13_within : GoodIn wsX13_guard (va_wsS RX13 231 yX13_within wsX13_within) := goodIn_app (goodIn_of _ (by decide +kernel)) ggX13_guard_X13_within
set_option maxRecDepth 20000 in
theorem ggX13_guard_X13_keeps : GoodIn wsX13_guard wsX13_keeps := goodIn_r _ [10, 11, 12, 13, 14, 5, 15, 2, 16, 17, 18, 19, 20, 21, 22, 23, 24, 25, 26, 27, 28, 29, 30, 31, 32, 33, 34, 35, 36, 37, 38, 39, 40, 41, 42, 43, 44, 45, 46, 47, 48, 49, 50, 51, 52, 53, 54, 55, 56] (by decide +kernel) (by decide +kernel)
set_option maxRecDepth 20000 in
theorem gX13_guard_X13_keeps : GoodIn wsX13_guard (wsV RX13 370 RX13 yX13_keeps wsX13_keeps) := goodIn_app (goodIn_of _ (by decide +kernel)) ggX13_guard_X13_keeps
theorem dX13_guard_0 : decode cX13_guard 0 = .ok (.aload_n 0, 1) := by decide +kernel
theorem dX13_guard_1 : decode cX13_guard 1 = .ok (.iconst 0, 1) := by decide +kernel
theorem dX13_guard_2 : decode cX13_guard 2 = .ok (.putfield 1, 3) := by decide +kernel
theorem dX13_guard_5 : decode cX13_guard 5 = .ok (.iload_n 1, 1) := by decide +kernel
theorem dX13_guard_6 : decode cX13_guard 6 = .ok (.iconst 0, 1) := by decide +kernel
theorem dX13_guard_7 : decode cX13_guard 7 = .ok (.bipush 23, 2) := by decide +kernel
theorem dX13_guard_9 : decode cX13_guard 9 = .ok (.invokestatic 231, 3) := by decide +kernel
theorem dX13_guard_12 : decode cX13_guard 12 = .ok (.ifCond .eq 17, 3) := by decide +kernel
theorem dX13_guard_15 : decode cX13_guard 15 = .ok (.aload_n 0, 1) := by decide +kernel
theorem dX13_guard_16 : decode cX13_guard 16 = .ok (.getfield 125, 3) := by decide +kernel
theorem dX13_guard_19 : decode cX13_guard 19 = .ok (.iconst 1, 1) := by decide +kernel
theorem dX13_guard_20 : decode cX13_guard 20 = .ok (.iaload, 1) := by decide +kernel
theorem dX13_guard_21 : decode cX13_guard 21 = .ok (.iload_n 1, 1) := by decide +kernel
theorem dX13_guard_22 : decode cX13_guard 22 = .ok (.ishr, 1) := by decide +kernel
theorem dX13_guard_23 : decode cX13_guard 23 = .ok (.iconst 1, 1) := by decide +kernel
theorem dX13_guard_24 : decode cX13_guard 24 = .ok (.iand, 1) := by decide +kernel
theorem dX13_guard_25 : decode cX13_guard 25 = .ok (.iconst 1, 1) := by decide +kernel
theorem dX13_guard_26 : decode cX13_guard 26 = .ok (.if_icmp .ne 5, 3) := by decide +kernel
theorem dX13_guard_29 : decode cX13_guard 29 = .ok (.iconst 0, 1) := by decide +kernel
theorem dX13_guard_30 : decode cX13_guard 30 = .ok (.ireturn, 1) := by decide +kernel
theorem dX13_guard_31 : decode cX13_guard 31 = .ok (.aload_n 0, 1) := by decide +kernel
theorem dX13_guard_32 : decode cX13_guard 32 = .ok (.invokevirtual 370, 3) := by decide +kernel
theorem dX13_guard_35 : decode cX13_guard 35 = .ok (.aload_n 0, 1) := by decide +kernel
theorem dX13_guard_36 : decode cX13_guard 36 = .ok (.getfield 125, 3) := by decide +kernel
theorem dX13_guard_39 : decode cX13_guard 39 = .ok (.iconst 1, 1) := by decide +kernel
theorem dX13_guard_40 : decode cX13_guard 40 = .ok (.dup2, 1) := by decide +kernel
theorem dX13_guard_41 : decode cX13_guard 41 = .ok (.iaload, 1) := by decide +kernel
theorem dX13_guard_42 : decode cX13_guard 42 = .ok (.iconst 1, 1) := by decide +kernel
theorem dX13_guard_43 : decode cX13_guard 43 = .ok (.iload_n 1, 1) := by decide +kernel
theorem dX13_guard_44 : decode cX13_guard 44 = .ok (.ishl, 1) := by decide +kernel
theorem dX13_guard_45 : decode cX13_guard 45 = .ok (.ior, 1) := by decide +kernel
theorem dX13_guard_46 : decode cX13_guard 46 = .ok (.iastore, 1) := by decide +kernel
theorem dX13_guard_47 : decode cX13_guard 47 = .ok (.iconst 1, 1) := by decide +kernel
theorem dX13_guard_48 : decode cX13_guard 48 = .ok (.ireturn, 1) := by decide +kernel
set_option maxRecDepth 20000 in
theorem ggX13_passes_X13_hanging : GoodIn wsX13_passes wsX13_hanging := goodIn_r _ [6, 1, 7, 8, 9, 10, 11, 12, 13, 14, 15, 16, 17, 18, 19, 20, 21, 22, 23, 24, 25, 26, 27, 28, 29, 30, 31, 32, 33, 34, 35, 36, 37, 38, 39, 40, 41, 42, 43, 44, 45, 46, 47] (by decide +kernel) (by decide +kernel)
set_option maxRecDepth 20000 in
theorem gX13_passes_X13_hanging : GoodIn wsX13_passes (wsV RX13 364 RX13 yX13_hanging wsX13_hanging) := goodIn_app (goodIn_of _ (by decide +kernel)) ggX13_passes_X13_hanging
theorem dX13_passes_0 : decode cX13_passes 0 = .ok (.aload_n 0, 1) := by decide +kernel
theorem dX13_passes_1 : decode cX13_passes 1 = .ok (.getfield 125, 3) := by decide +kernel
theorem dX13_passes_4 : decode cX13_passes 4 = .ok (.iload_n 1, 1) := by decide +kernel
theorem dX13_passes_5 : decode cX13_passes 5 = .ok (.bipush 19, 2) := by decide +kernel
theorem dX13_passes_7 : decode cX13_passes 7 = .ok (.iadd, 1) := by decide +kernel
theorem dX13_passes_8 : decode cX13_passes 8 = .ok (.aload_n 0, 1) := by decide +kernel
theorem dX13_passes_9 : decode cX13_passes 9 = .ok (.iload_n 1, 1) := by decide +kernel
theorem dX13_passes_10 : decode cX13_passes 10 = .ok (.invokevirtual 364, 3) := by decide +kernel
theorem dX13_passes_13 : decode cX13_passes 13 = .ok (.iadd, 1) := by decide +kernel
theorem dX13_passes_14 : decode cX13_passes 14 = .ok (.dup2, 1) := by decide +kernel
theorem dX13_passes_15 : decode cX13_passes 15 = .ok (.iaload, 1) := by decide +kernel
theorem dX13_passes_16 : decode cX13_passes 16 = .ok (.iconst 1, 1) := by decide +kernel
theorem dX13_passes_17 : decode cX13_passes 17 = .ok (.iadd, 1) := by decide +kernel
theorem dX13_passes_18 : decode cX13_passes 18 = .ok (.iastore, 1) := by decide +kernel
theorem dX13_passes_19 : decode cX13_passes 19 = .ok (.aload_n 0, 1) := by decide +kernel
theorem dX13_passes_20 : decode cX13_passes 20 = .ok (.getfield 125, 3) := by decide +kernel
theorem dX13_passes_23 : decode cX13_passes 23 = .ok (.iload_n 1, 1) := by decide +kernel
theorem dX13_passes_24 : decode cX13_passes 24 = .ok (.iconst 1, 1) := by decide +kernel
theorem dX13_passes_25 : decode cX13_passes 25 = .ok (.iadd, 1) := by decide +kernel
theorem dX13_passes_26 : decode cX13_passes 26 = .ok (.iconst 0, 1) := by decide +kernel
theorem dX13_passes_27 : decode cX13_passes 27 = .ok (.iastore, 1) := by decide +kernel
theorem dX13_passes_28 : decode cX13_passes 28 = .ok (.aload_n 0, 1) := by decide +kernel
theorem dX13_passes_29 : decode cX13_passes 29 = .ok (.getfield 125, 3) := by decide +kernel
theorem dX13_passes_32 : decode cX13_passes 32 = .ok (.iload_n 1, 1) := by decide +kernel
theorem dX13_passes_33 : decode cX13_passes 33 = .ok (.iconst 0, 1) := by decide +kernel
theorem dX13_passes_34 : decode cX13_passes 34 = .ok (.iadd, 1) := by decide +kernel
theorem dX13_passes_35 : decode cX13_passes 35 = .ok (.dup2, 1) := by decide +kernel
theorem dX13_passes_36 : decode cX13_passes 36 = .ok (.iaload, 1) := by decide +kernel
theorem dX13_passes_37 : decode cX13_passes 37 = .ok (.iconst 1, 1) := by decide +kernel
theorem dX13_passes_38 : decode cX13_passes 38 = .ok (.iadd, 1) := by decide +kernel
theorem dX13_passes_39 : decode cX13_passes 39 = .ok (.iastore, 1) := by decide +kernel
theorem dX13_passes_40 : decode cX13_passes 40 = .ok (.return_, 1) := by decide +kernel
set_option maxRecDepth 20000 in
theorem ggX13_night_X13_keeps : GoodIn wsX13_night wsX13_keeps := goodIn_r _ [7, 8, 9, 10, 11, 6, 12, 2, 21, 22, 23, 24, 25, 26, 27, 28, 29, 30, 31, 32, 33, 34, 35, 36, 37, 38, 39, 40, 41, 42, 43, 44, 45, 46, 47, 48, 49, 50, 51, 52, 53, 54, 55, 56, 57, 58, 59, 60, 61] (by decide +kernel) (by decide +kernel)
set_option maxRecDepth 20000 in
theorem gX13_night_X13_keeps : GoodIn wsX13_night (wsV RX13 370 RX13 yX13_keeps wsX13_keeps) := goodIn_app (goodIn_of _ (by decide +kernel)) ggX13_night_X13_keeps
set_option maxRecDepth 20000 in
theorem ggX13_night_X13_passes : GoodIn wsX13_night wsX13_passes := goodIn_r _ [16, 2, 17, 18, 19, 6, 20, 21, 22, 23, 24, 25, 26, 27, 28, 29, 30, 31, 32, 33, 34, 35, 36, 37, 38, 39, 40, 41, 42, 43, 44, 45, 46, 47, 48, 49, 50, 51, 52, 53, 54, 55, 56, 57, 58, 59, 60, 61] (by decide +kernel) (by decide +kernel)
set_option maxRecDepth 20000 in
theorem gX13_night_X13_passes : GoodIn wsX13_night (wsV RX13 393 RX13 yX13_passes wsX13_passes) := goodIn_app (goodIn_of _ (by decide +kernel)) ggX13_night_X13_passes
theorem dX13_night_0 : decode cX13_night 0 = .ok (.aload_n 0, 1) := by decide +kernel
theorem dX13_night_1 : decode cX13_night 1 = .ok (.iconst 0, 1) := by decide +kernel
theorem dX13_night_2 : decode cX13_night 2 = .ok (.putfield 1, 3) := by decide +kernel
theorem dX13_night_5 : decode cX13_night 5 = .ok (.aload_n 0, 1) := by decide +kernel
theorem dX13_night_6 : decode cX13_night 6 = .ok (.invokevirtual 370, 3) := by decide +kernel
theorem dX13_night_9 : decode cX13_night 9 = .ok (.aload_n 0, 1) := by decide +kernel
theorem dX13_night_10 : decode cX13_night 10 = .ok (.iconst 0, 1) := by decide +kernel
theorem dX13_night_11 : decode cX13_night 11 = .ok (.invokevirtual 393, 3) := by decide +kernel
theorem dX13_night_14 : decode cX13_night 14 = .ok (.aload_n 0, 1) := by decide +kernel
theorem dX13_night_15 : decode cX13_night 15 = .ok (.getfield 125, 3) := by decide +kernel
theorem dX13_night_18 : decode cX13_night 18 = .ok (.iconst 0, 1) := by decide +kernel
theorem dX13_night_19 : decode cX13_night 19 = .ok (.iaload, 1) := by decide +kernel
theorem dX13_night_20 : decode cX13_night 20 = .ok (.ireturn, 1) := by decide +kernel
set_option maxRecDepth 20000 in
theorem ggX13_undo_X13_copies : GoodIn wsX13_undo wsX13_copies := goodIn_r _ [7, 8, 9, 10, 11, 12, 13, 14, 15, 16, 17, 18, 19, 20, 21, 22, 23, 24, 25, 26, 27, 28, 29, 30, 31, 32, 33, 34, 35, 36, 37, 38, 39, 40, 41, 42, 43, 44, 45, 46, 47, 48, 49] (by decide +kernel) (by decide +kernel)
set_option maxRecDepth 20000 in
theorem gX13_undo_X13_copies : GoodIn wsX13_undo (wsV RX13 332 RX13 yX13_copies wsX13_copies) := goodIn_app (goodIn_of _ (by decide +kernel)) ggX13_undo_X13_copies
theorem dX13_undo_0 : decode cX13_undo 0 = .ok (.aload_n 0, 1) := by decide +kernel
theorem dX13_undo_1 : decode cX13_undo 1 = .ok (.iconst 0, 1) := by decide +kernel
theorem dX13_undo_2 : decode cX13_undo 2 = .ok (.putfield 1, 3) := by decide +kernel
theorem dX13_undo_5 : decode cX13_undo 5 = .ok (.aload_n 0, 1) := by decide +kernel
theorem dX13_undo_6 : decode cX13_undo 6 = .ok (.getfield 329, 3) := by decide +kernel
theorem dX13_undo_9 : decode cX13_undo 9 = .ok (.ifCond .ne 5, 3) := by decide +kernel
theorem dX13_undo_12 : decode cX13_undo 12 = .ok (.iconst 0, 1) := by decide +kernel
theorem dX13_undo_13 : decode cX13_undo 13 = .ok (.ireturn, 1) := by decide +kernel
theorem dX13_undo_14 : decode cX13_undo 14 = .ok (.aload_n 0, 1) := by decide +kernel
theorem dX13_undo_15 : decode cX13_undo 15 = .ok (.dup, 1) := by decide +kernel
theorem dX13_undo_16 : decode cX13_undo 16 = .ok (.getfield 329, 3) := by decide +kernel
theorem dX13_undo_19 : decode cX13_undo 19 = .ok (.iconst 1, 1) := by decide +kernel
theorem dX13_undo_20 : decode cX13_undo 20 = .ok (.isub, 1) := by decide +kernel
theorem dX13_undo_21 : decode cX13_undo 21 = .ok (.putfield 329, 3) := by decide +kernel
theorem dX13_undo_24 : decode cX13_undo 24 = .ok (.aload_n 0, 1) := by decide +kernel
theorem dX13_undo_25 : decode cX13_undo 25 = .ok (.bipush 66, 2) := by decide +kernel
theorem dX13_undo_27 : decode cX13_undo 27 = .ok (.iconst 5, 1) := by decide +kernel
theorem dX13_undo_28 : decode cX13_undo 28 = .ok (.aload_n 0, 1) := by decide +kernel
theorem dX13_undo_29 : decode cX13_undo 29 = .ok (.getfield 329, 3) := by decide +kernel
theorem dX13_undo_32 : decode cX13_undo 32 = .ok (.iadd, 1) := by decide +kernel
theorem dX13_undo_33 : decode cX13_undo 33 = .ok (.imul, 1) := by decide +kernel
theorem dX13_undo_34 : decode cX13_undo 34 = .ok (.iconst 0, 1) := by decide +kernel
theorem dX13_undo_35 : decode cX13_undo 35 = .ok (.bipush 48, 2) := by decide +kernel
theorem dX13_undo_37 : decode cX13_undo 37 = .ok (.invokevirtual 332, 3) := by decide +kernel
theorem dX13_undo_40 : decode cX13_undo 40 = .ok (.iconst 1, 1) := by decide +kernel
theorem dX13_undo_41 : decode cX13_undo 41 = .ok (.ireturn, 1) := by decide +kernel
set_option maxRecDepth 20000 in
theorem ggX13_does_X13_maySteal : GoodIn wsX13_does wsX13_maySteal := goodIn_r _ [7, 2, 8, 9, 10, 6, 11, 12, 13, 14, 15, 16, 17, 18, 19, 20, 71, 72, 73, 74, 75, 76, 77, 78, 79, 80, 81, 82, 83, 84, 85, 86, 87, 88, 89, 90, 91, 92, 93, 94, 95, 96, 97, 98, 99, 100, 101, 102, 103, 104, 105, 106, 107, 108, 109, 110, 111] (by decide +kernel) (by decide +kernel)
set_option maxRecDepth 20000 in
theorem gX13_does_X13_maySteal : GoodIn wsX13_does (wsV RX13 367 RX13 yX13_maySteal wsX13_maySteal) := goodIn_app (goodIn_of _ (by decide +kernel)) ggX13_does_X13_maySteal
set_option maxRecDepth 20000 in
theorem ggX13_does_X13_mayPaint : GoodIn wsX13_does wsX13_mayPaint := goodIn_r _ [24, 2, 17, 18, 19, 6, 20, 8, 9, 10, 11, 12, 25, 26, 27, 28, 29, 30, 31, 32, 33, 34, 35, 36, 37, 38, 39, 40, 41, 42, 71, 72, 73, 74, 75, 76, 77, 78, 79, 80, 81, 82, 83, 84, 85, 86, 87, 88, 89, 90, 91, 92, 93, 94, 95, 96, 97, 98, 99, 100, 101, 102, 103, 104, 105, 106, 107, 108, 109, 110, 111] (by decide +kernel) (by decide +kernel)
set_option maxRecDepth 20000 in
theorem gX13_does_X13_mayPaint : GoodIn wsX13_does (wsV RX13 382 RX13 yX13_mayPaint wsX13_mayPaint) := goodIn_app (goodIn_of _ (by decide +kernel)) ggX13_does_X13_mayPaint
set_option maxRecDepth 20000 in
theorem ggX13_does_X13_hasIt : GoodIn wsX13_does wsX13_hasIt := goodIn_r _ [16, 2, 17, 18, 19, 6, 20, 71, 72, 73, 74, 75, 76, 77, 78, 79, 80, 81, 82, 83, 84, 85, 86, 87, 88, 89, 90, 91, 92, 93, 94, 95, 96, 97, 98, 99, 100, 101, 102, 103, 104, 105, 106, 107, 108, 109, 110, 111] (by decide +kernel) (by decide +kernel)
set_option maxRecDepth 20000 in
theorem gX13_does_X13_hasIt : GoodIn wsX13_does (wsV RX13 361 RX13 yX13_hasIt wsX13_hasIt) := goodIn_app (goodIn_of _ (by decide +kernel)) ggX13_does_X13_hasIt
set_option maxRecDepth 20000 in
theorem ggX13_does_X13_doesSo : GoodIn wsX13_does wsX13_doesSo := goodIn_r _ [46, 2, 47, 48, 49, 6, 50, 51, 52, 53, 54, 8, 9, 10, 11, 12, 55, 56, 57, 58, 59, 60, 61, 62, 63, 64, 65, 66, 29, 30, 31, 32, 33, 34, 35, 36, 37, 38, 39, 40, 41, 42, 67, 68, 69, 70, 71, 72, 73, 74, 75, 76, 77, 78, 79, 80, 81, 82, 83, 84, 85, 86, 87, 88, 89, 90, 91, 92, 93, 94, 95, 96, 97, 98, 99, 100, 101, 102, 103, 104, 105, 106, 107, 108, 109, 110, 111] (by decide +kernel) (by decide +kernel)
set_option maxRecDepth 20000 in
theorem gX13_does_X13_doesSo : GoodIn wsX13_does (wsV RX13 396 RX13 yX13_doesSo wsX13_doesSo) := goodIn_app (goodIn_of _ (by decide +kernel)) ggX13_does_X13_doesSo
theorem dX13_does_0 : decode cX13_does 0 = .ok (.aload_n 0, 1) := by decide +kernel
theorem dX13_does_1 : decode cX13_does 1 = .ok (.getfield 116, 3) := by decide +kernel
theorem dX13_does_4 : decode cX13_does 4 = .ok (.iload_n 1, 1) := by decide +kernel
theorem dX13_does_5 : decode cX13_does 5 = .ok (.iaload, 1) := by decide +kernel
theorem dX13_does_6 : decode cX13_does 6 = .ok (.istore_n 2, 1) := by decide +kernel
theorem dX13_does_7 : decode cX13_does 7 = .ok (.aload_n 0, 1) := by decide +kernel
theorem dX13_does_8 : decode cX13_does 8 = .ok (.getfield 116, 3) := by decide +kernel
theorem dX13_does_11 : decode cX13_does 11 = .ok (.iload_n 1, 1) := by decide +kernel
theorem dX13_does_12 : decode cX13_does 12 = .ok (.iconst 1, 1) := by decide +kernel
theorem dX13_does_13 : decode cX13_does 13 = .ok (.iadd, 1) := by decide +kernel
theorem dX13_does_14 : decode cX13_does 14 = .ok (.iaload, 1) := by decide +kernel
theorem dX13_does_15 : decode cX13_does 15 = .ok (.istore_n 3, 1) := by decide +kernel
theorem dX13_does_16 : decode cX13_does 16 = .ok (.aload_n 0, 1) := by decide +kernel
theorem dX13_does_17 : decode cX13_does 17 = .ok (.getfield 116, 3) := by decide +kernel
theorem dX13_does_20 : decode cX13_does 20 = .ok (.iload_n 1, 1) := by decide +kernel
theorem dX13_does_21 : decode cX13_does 21 = .ok (.iconst 2, 1) := by decide +kernel
theorem dX13_does_22 : decode cX13_does 22 = .ok (.iadd, 1) := by decide +kernel
theorem dX13_does_23 : decode cX13_does 23 = .ok (.iaload, 1) := by decide +kernel
theorem dX13_does_24 : decode cX13_does 24 = .ok (.istore 4, 2) := by decide +kernel
theorem dX13_does_26 : decode cX13_does 26 = .ok (.aload_n 0, 1) := by decide +kernel
theorem dX13_does_27 : decode cX13_does 27 = .ok (.getfield 116, 3) := by decide +kernel
theorem dX13_does_30 : decode cX13_does 30 = .ok (.iload_n 1, 1) := by decide +kernel
theorem dX13_does_31 : decode cX13_does 31 = .ok (.iconst 3, 1) := by decide +kernel
theorem dX13_does_32 : decode cX13_does 32 = .ok (.iadd, 1) := by decide +kernel
theorem dX13_does_33 : decode cX13_does 33 = .ok (.iaload, 1) := by decide +kernel
theorem dX13_does_34 : decode cX13_does 34 = .ok (.istore 5, 2) := by decide +kernel
theorem dX13_does_36 : decode cX13_does 36 = .ok (.iload_n 2, 1) := by decide +kernel
theorem dX13_does_37 : decode cX13_does 37 = .ok (.iconst 4, 1) := by decide +kernel
theorem dX13_does_38 : decode cX13_does 38 = .ok (.if_icmp .ne 7, 3) := by decide +kernel
theorem dX13_does_41 : decode cX13_does 41 = .ok (.iconst 1, 1) := by decide +kernel
theorem dX13_does_42 : decode cX13_does 42 = .ok (.goto 4, 3) := by decide +kernel
theorem dX13_does_45 : decode cX13_does 45 = .ok (.iconst 0, 1) := by decide +kernel
theorem dX13_does_46 : decode cX13_does 46 = .ok (.istore 6, 2) := by decide +kernel
theorem dX13_does_48 : decode cX13_does 48 = .ok (.iload_n 2, 1) := by decide +kernel
theorem dX13_does_49 : decode cX13_does 49 = .ok (.ifCond .ne 18, 3) := by decide +kernel
theorem dX13_does_52 : decode cX13_does 52 = .ok (.aload_n 0, 1) := by decide +kernel
theorem dX13_does_53 : decode cX13_does 53 = .ok (.sipush 1386, 3) := by decide +kernel
theorem dX13_does_56 : decode cX13_does 56 = .ok (.iload_n 3, 1) := by decide +kernel
theorem dX13_does_57 : decode cX13_does 57 = .ok (.iload 4, 2) := by decide +kernel
theorem dX13_does_59 : decode cX13_does 59 = .ok (.invokevirtual 367, 3) := by decide +kernel
theorem dX13_does_62 : decode cX13_does 62 = .ok (.istore 6, 2) := by decide +kernel
theorem dX13_does_64 : decode cX13_does 64 = .ok (.goto 72, 3) := by decide +kernel
theorem dX13_does_67 : decode cX13_does 67 = .ok (.iload_n 2, 1) := by decide +kernel
theorem dX13_does_68 : decode cX13_does 68 = .ok (.iconst 1, 1) := by decide +kernel
theorem dX13_does_69 : decode cX13_does 69 = .ok (.if_icmp .ne 20, 3) := by decide +kernel
theorem dX13_does_72 : decode cX13_does 72 = .ok (.aload_n 0, 1) := by decide +kernel
theorem dX13_does_73 : decode cX13_does 73 = .ok (.sipush 1386, 3) := by decide +kernel
theorem dX13_does_76 : decode cX13_does 76 = .ok (.iload_n 3, 1) := by decide +kernel
theorem dX13_does_77 : decode cX13_does 77 = .ok (.iload 4, 2) := by decide +kernel
theorem dX13_does_79 : decode cX13_does 79 = .ok (.iload 5, 2) := by decide +kernel
theorem dX13_does_81 : decode cX13_does 81 = .ok (.invokevirtual 382, 3) := by decide +kernel
theorem dX13_does_84 : decode cX13_does 84 = .ok (.istore 6, 2) := by decide +kernel
theorem dX13_does_86 : decode cX13_does 86 = .ok (.goto 50, 3) := by decide +kernel
theorem dX13_does_89 : decode cX13_does 89 = .ok (.iload_n 2, 1) := by decide +kernel
theorem dX13_does_90 : decode cX13_does 90 = .ok (.iconst 2, 1) := by decide +kernel
theorem dX13_does_91 : decode cX13_does 91 = .ok (.if_icmp .ne 18, 3) := by decide +kernel
theorem dX13_does_94 : decode cX13_does 94 = .ok (.aload_n 0, 1) := by decide +kernel
theorem dX13_does_95 : decode cX13_does 95 = .ok (.sipush 1386, 3) := by decide +kernel
theorem dX13_does_98 : decode cX13_does 98 = .ok (.iload_n 3, 1) := by decide +kernel
theorem dX13_does_99 : decode cX13_does 99 = .ok (.iload 4, 2) := by decide +kernel
theorem dX13_does_101 : decode cX13_does 101 = .ok (.invokevirtual 361, 3) := by decide +kernel
theorem dX13_does_104 : decode cX13_does 104 = .ok (.istore 6, 2) := by decide +kernel
theorem dX13_does_106 : decode cX13_does 106 = .ok (.goto 30, 3) := by decide +kernel
theorem dX13_does_109 : decode cX13_does 109 = .ok (.iload_n 2, 1) := by decide +kernel
theorem dX13_does_110 : decode cX13_does 110 = .ok (.iconst 3, 1) := by decide +kernel
theorem dX13_does_111 : decode cX13_does 111 = .ok (.if_icmp .ne 25, 3) := by decide +kernel
theorem dX13_does_114 : decode cX13_does 114 = .ok (.aload_n 0, 1) := by decide +kernel
theorem dX13_does_115 : decode cX13_does 115 = .ok (.getfield 125, 3) := by decide +kernel
theorem dX13_does_118 : decode cX13_does 118 = .ok (.sipush 1387, 3) := by decide +kernel
theorem dX13_does_121 : decode cX13_does 121 = .ok (.iaload, 1) := by decide +kernel
theorem dX13_does_122 : decode cX13_does 122 = .ok (.iload_n 3, 1) := by decide +kernel
theorem dX13_does_123 : decode cX13_does 123 = .ok (.ishr, 1) := by decide +kernel
theorem dX13_does_124 : decode cX13_does 124 = .ok (.iconst 1, 1) := by decide +kernel
theorem dX13_does_125 : decode cX13_does 125 = .ok (.iand, 1) := by decide +kernel
theorem dX13_does_126 : decode cX13_does 126 = .ok (.ifCond .ne 7, 3) := by decide +kernel
theorem dX13_does_129 : decode cX13_does 129 = .ok (.iconst 1, 1) := by decide +kernel
theorem dX13_does_130 : decode cX13_does 130 = .ok (.goto 4, 3) := by decide +kernel
theorem dX13_does_133 : decode cX13_does 133 = .ok (.iconst 0, 1) := by decide +kernel
theorem dX13_does_134 : decode cX13_does 134 = .ok (.istore 6, 2) := by decide +kernel
theorem dX13_does_136 : decode cX13_does 136 = .ok (.iload 6, 2) := by decide +kernel
theorem dX13_does_138 : decode cX13_does 138 = .ok (.ifCond .eq 13, 3) := by decide +kernel
theorem dX13_does_141 : decode cX13_does 141 = .ok (.aload_n 0, 1) := by decide +kernel
theorem dX13_does_142 : decode cX13_does 142 = .ok (.iload_n 2, 1) := by decide +kernel
theorem dX13_does_143 : decode cX13_does 143 = .ok (.iload_n 3, 1) := by decide +kernel
theorem dX13_does_144 : decode cX13_does 144 = .ok (.iload 4, 2) := by decide +kernel
theorem dX13_does_146 : decode cX13_does 146 = .ok (.iload 5, 2) := by decide +kernel
theorem dX13_does_148 : decode cX13_does 148 = .ok (.invokevirtual 396, 3) := by decide +kernel
theorem dX13_does_151 : decode cX13_does 151 = .ok (.iload 6, 2) := by decide +kernel
theorem dX13_does_153 : decode cX13_does 153 = .ok (.ireturn, 1) := by decide +kernel
set_option maxRecDepth 20000 in
theorem ggX13_doesSo_X13_steals : GoodIn wsX13_doesSo wsX13_steals := goodIn_r _ [6, 1, 7, 8, 9, 5, 10, 11, 12, 13, 14, 15, 46, 47, 48, 49, 50, 51, 52, 53, 54, 55, 56, 57, 58, 59, 60, 61, 62, 63, 64, 65, 66, 67, 68, 69, 70, 71, 72, 73, 74, 75, 76, 77, 78, 79, 80, 81, 82, 83, 84, 85, 86] (by decide +kernel) (by decide +kernel)
set_option maxRecDepth 20000 in
theorem gX13_doesSo_X13_steals : GoodIn wsX13_doesSo (wsV RX13 373 RX13 yX13_steals wsX13_steals) := goodIn_app (goodIn_of _ (by decide +kernel)) ggX13_doesSo_X13_steals
set_option maxRecDepth 20000 in
theorem ggX13_doesSo_X13_paints : GoodIn wsX13_doesSo wsX13_paints := goodIn_r _ [19, 1, 46, 47, 48, 49, 50, 51, 52, 53, 54, 55, 56, 57, 58, 59, 60, 61, 62, 63, 64, 65, 66, 67, 68, 69, 70, 71, 72, 73, 74, 75, 76, 77, 78, 79, 80, 81, 82, 83, 84, 85, 86] (by decide +kernel) (by decide +kernel)
set_option maxRecDepth 20000 in
theorem gX13_doesSo_X13_paints : GoodIn wsX13_doesSo (wsV RX13 386 RX13 yX13_paints wsX13_paints) := goodIn_app (goodIn_of _ (by decide +kernel)) ggX13_doesSo_X13_paints
set_option maxRecDepth 20000 in
theorem ggX13_doesSo_X13_sells : GoodIn wsX13_doesSo wsX13_sells := goodIn_r _ [23, 1, 24, 25, 26, 5, 27, 28, 15, 29, 30, 31, 32, 33, 34, 35, 36, 37, 38, 39, 40, 41, 46, 47, 48, 49, 50, 51, 52, 53, 54, 55, 56, 57, 58, 59, 60, 61, 62, 63, 64, 65, 66, 67, 68, 69, 70, 71, 72, 73, 74, 75, 76, 77, 78, 79, 80, 81, 82, 83, 84, 85, 86] (by decide +kernel) (by decide +kernel)
set_option maxRecDepth 20000 in
theorem gX13_doesSo_X13_sells : GoodIn wsX13_doesSo (wsV RX13 390 RX13 yX13_sells wsX13_sells) := goodIn_app (goodIn_of _ (by decide +kernel)) ggX13_doesSo_X13_sells
set_option maxRecDepth 20000 in
theorem ggX13_doesSo_X13_passes : GoodIn wsX13_doesSo wsX13_passes := goodIn_r _ [45, 1, 7, 8, 9, 5, 10, 46, 47, 48, 49, 50, 51, 52, 53, 54, 55, 56, 57, 58, 59, 60, 61, 62, 63, 64, 65, 66, 67, 68, 69, 70, 71, 72, 73, 74, 75, 76, 77, 78, 79, 80, 81, 82, 83, 84, 85, 86] (by decide +kernel) (by decide +kernel)
set_option maxRecDepth 20000 in
theorem gX13_doesSo_X13_passes : GoodIn wsX13_doesSo (wsV RX13 393 RX13 yX13_passes wsX13_passes) := goodIn_app (goodIn_of _ (by decide +kernel)) ggX13_doesSo_X13_passes
theorem dX13_doesSo_0 : decode cX13_doesSo 0 = .ok (.iload_n 1, 1) := by decide +kernel
theorem dX13_doesSo_1 : decode cX13_doesSo 1 = .ok (.ifCond .ne 16, 3) := by decide +kernel
theorem dX13_doesSo_4 : decode cX13_doesSo 4 = .ok (.aload_n 0, 1) := by decide +kernel
theorem dX13_doesSo_5 : decode cX13_doesSo 5 = .ok (.sipush 1386, 3) := by decide +kernel
theorem dX13_doesSo_8 : decode cX13_doesSo 8 = .ok (.iload_n 2, 1) := by decide +kernel
theorem dX13_doesSo_9 : decode cX13_doesSo 9 = .ok (.iload_n 3, 1) := by decide +kernel
theorem dX13_doesSo_10 : decode cX13_doesSo 10 = .ok (.invokevirtual 373, 3) := by decide +kernel
theorem dX13_doesSo_13 : decode cX13_doesSo 13 = .ok (.pop, 1) := by decide +kernel
theorem dX13_doesSo_14 : decode cX13_doesSo 14 = .ok (.goto 70, 3) := by decide +kernel
theorem dX13_doesSo_17 : decode cX13_doesSo 17 = .ok (.iload_n 1, 1) := by decide +kernel
theorem dX13_doesSo_18 : decode cX13_doesSo 18 = .ok (.iconst 1, 1) := by decide +kernel
theorem dX13_doesSo_19 : decode cX13_doesSo 19 = .ok (.if_icmp .ne 18, 3) := by decide +kernel
theorem dX13_doesSo_22 : decode cX13_doesSo 22 = .ok (.aload_n 0, 1) := by decide +kernel
theorem dX13_doesSo_23 : decode cX13_doesSo 23 = .ok (.sipush 1386, 3) := by decide +kernel
theorem dX13_doesSo_26 : decode cX13_doesSo 26 = .ok (.iload_n 2, 1) := by decide +kernel
theorem dX13_doesSo_27 : decode cX13_doesSo 27 = .ok (.iload_n 3, 1) := by decide +kernel
theorem dX13_doesSo_28 : decode cX13_doesSo 28 = .ok (.iload 4, 2) := by decide +kernel
theorem dX13_doesSo_30 : decode cX13_doesSo 30 = .ok (.invokevirtual 386, 3) := by decide +kernel
theorem dX13_doesSo_33 : decode cX13_doesSo 33 = .ok (.pop, 1) := by decide +kernel
theorem dX13_doesSo_34 : decode cX13_doesSo 34 = .ok (.goto 50, 3) := by decide +kernel
