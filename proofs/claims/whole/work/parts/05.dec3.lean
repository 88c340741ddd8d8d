/-! what the bytes say -/
theorem dX6_bars_0 : decode cX6_bars 0 = .ok (.aload_n 0, 1) := by decide +kernel
theorem dX6_bars_1 : decode cX6_bars 1 = .ok (.getfield 48, 3) := by decide +kernel
theorem dX6_bars_4 : decode cX6_bars 4 = .ok (.iload_n 2, 1) := by decide +kernel
theorem dX6_bars_5 : decode cX6_bars 5 = .ok (.iaload, 1) := by decide +kernel
theorem dX6_bars_6 : decode cX6_bars 6 = .ok (.istore_n 3, 1) := by decide +kernel
theorem dX6_bars_7 : decode cX6_bars 7 = .ok (.aload_n 0, 1) := by decide +kernel
theorem dX6_bars_8 : decode cX6_bars 8 = .ok (.getfield 57, 3) := by decide +kernel
theorem dX6_bars_11 : decode cX6_bars 11 = .ok (.iload_n 2, 1) := by decide +kernel
theorem dX6_bars_12 : decode cX6_bars 12 = .ok (.iaload, 1) := by decide +kernel
theorem dX6_bars_13 : decode cX6_bars 13 = .ok (.istore 4, 2) := by decide +kernel
theorem dX6_bars_15 : decode cX6_bars 15 = .ok (.aload_n 0, 1) := by decide +kernel
theorem dX6_bars_16 : decode cX6_bars 16 = .ok (.iload_n 1, 1) := by decide +kernel
theorem dX6_bars_17 : decode cX6_bars 17 = .ok (.iload 4, 2) := by decide +kernel
theorem dX6_bars_19 : decode cX6_bars 19 = .ok (.invokevirtual 134, 3) := by decide +kernel
theorem dX6_bars_22 : decode cX6_bars 22 = .ok (.istore 5, 2) := by decide +kernel
theorem dX6_bars_24 : decode cX6_bars 24 = .ok (.iload 4, 2) := by decide +kernel
theorem dX6_bars_26 : decode cX6_bars 26 = .ok (.ifCond .lt 17, 3) := by decide +kernel
theorem dX6_bars_29 : decode cX6_bars 29 = .ok (.aload_n 0, 1) := by decide +kernel
theorem dX6_bars_30 : decode cX6_bars 30 = .ok (.getfield 42, 3) := by decide +kernel
theorem dX6_bars_33 : decode cX6_bars 33 = .ok (.iload 4, 2) := by decide +kernel
theorem dX6_bars_35 : decode cX6_bars 35 = .ok (.iaload, 1) := by decide +kernel
theorem dX6_bars_36 : decode cX6_bars 36 = .ok (.iconst 1, 1) := by decide +kernel
theorem dX6_bars_37 : decode cX6_bars 37 = .ok (.if_icmp .ne 6, 3) := by decide +kernel
theorem dX6_bars_40 : decode cX6_bars 40 = .ok (.bipush (-3), 2) := by decide +kernel
theorem dX6_bars_42 : decode cX6_bars 42 = .ok (.ireturn, 1) := by decide +kernel
theorem dX6_bars_43 : decode cX6_bars 43 = .ok (.iload_n 3, 1) := by decide +kernel
theorem dX6_bars_44 : decode cX6_bars 44 = .ok (.bipush (-2), 2) := by decide +kernel
theorem dX6_bars_46 : decode cX6_bars 46 = .ok (.if_icmp .ne 16, 3) := by decide +kernel
theorem dX6_bars_49 : decode cX6_bars 49 = .ok (.aload_n 0, 1) := by decide +kernel
theorem dX6_bars_50 : decode cX6_bars 50 = .ok (.iload_n 1, 1) := by decide +kernel
theorem dX6_bars_51 : decode cX6_bars 51 = .ok (.iload 5, 2) := by decide +kernel
theorem dX6_bars_53 : decode cX6_bars 53 = .ok (.invokevirtual 137, 3) := by decide +kernel
theorem dX6_bars_56 : decode cX6_bars 56 = .ok (.ifCond .ne 15, 3) := by decide +kernel
theorem dX6_bars_59 : decode cX6_bars 59 = .ok (.goto 9, 3) := by decide +kernel
theorem dX6_bars_62 : decode cX6_bars 62 = .ok (.iload_n 3, 1) := by decide +kernel
theorem dX6_bars_63 : decode cX6_bars 63 = .ok (.iload 5, 2) := by decide +kernel
theorem dX6_bars_65 : decode cX6_bars 65 = .ok (.if_icmp .eq 6, 3) := by decide +kernel
theorem dX6_bars_68 : decode cX6_bars 68 = .ok (.bipush (-4), 2) := by decide +kernel
theorem dX6_bars_70 : decode cX6_bars 70 = .ok (.ireturn, 1) := by decide +kernel
theorem dX6_bars_71 : decode cX6_bars 71 = .ok (.iload_n 3, 1) := by decide +kernel
theorem dX6_bars_72 : decode cX6_bars 72 = .ok (.ifCond .lt 24, 3) := by decide +kernel
theorem dX6_bars_75 : decode cX6_bars 75 = .ok (.aload_n 0, 1) := by decide +kernel
theorem dX6_bars_76 : decode cX6_bars 76 = .ok (.getfield 51, 3) := by decide +kernel
theorem dX6_bars_79 : decode cX6_bars 79 = .ok (.iload_n 2, 1) := by decide +kernel
theorem dX6_bars_80 : decode cX6_bars 80 = .ok (.baload, 1) := by decide +kernel
theorem dX6_bars_81 : decode cX6_bars 81 = .ok (.ifCond .ne 15, 3) := by decide +kernel
theorem dX6_bars_84 : decode cX6_bars 84 = .ok (.aload_n 0, 1) := by decide +kernel
theorem dX6_bars_85 : decode cX6_bars 85 = .ok (.iload_n 1, 1) := by decide +kernel
theorem dX6_bars_86 : decode cX6_bars 86 = .ok (.iload_n 2, 1) := by decide +kernel
theorem dX6_bars_87 : decode cX6_bars 87 = .ok (.invokevirtual 140, 3) := by decide +kernel
theorem dX6_bars_90 : decode cX6_bars 90 = .ok (.ifCond .ne 6, 3) := by decide +kernel
theorem dX6_bars_93 : decode cX6_bars 93 = .ok (.bipush (-5), 2) := by decide +kernel
theorem dX6_bars_95 : decode cX6_bars 95 = .ok (.ireturn, 1) := by decide +kernel
theorem dX6_bars_96 : decode cX6_bars 96 = .ok (.aload_n 0, 1) := by decide +kernel
theorem dX6_bars_97 : decode cX6_bars 97 = .ok (.getfield 51, 3) := by decide +kernel
theorem dX6_bars_100 : decode cX6_bars 100 = .ok (.iload_n 2, 1) := by decide +kernel
theorem dX6_bars_101 : decode cX6_bars 101 = .ok (.baload, 1) := by decide +kernel
theorem dX6_bars_102 : decode cX6_bars 102 = .ok (.ifCond .ne 18, 3) := by decide +kernel
theorem dX6_bars_105 : decode cX6_bars 105 = .ok (.aload_n 0, 1) := by decide +kernel
theorem dX6_bars_106 : decode cX6_bars 106 = .ok (.getfield 54, 3) := by decide +kernel
theorem dX6_bars_109 : decode cX6_bars 109 = .ok (.iload_n 2, 1) := by decide +kernel
theorem dX6_bars_110 : decode cX6_bars 110 = .ok (.laload, 1) := by decide +kernel
theorem dX6_bars_111 : decode cX6_bars 111 = .ok (.invokestatic 127, 3) := by decide +kernel
theorem dX6_bars_114 : decode cX6_bars 114 = .ok (.ifCond .eq 6, 3) := by decide +kernel
theorem dX6_bars_117 : decode cX6_bars 117 = .ok (.bipush (-6), 2) := by decide +kernel
theorem dX6_bars_119 : decode cX6_bars 119 = .ok (.ireturn, 1) := by decide +kernel
theorem dX6_bars_120 : decode cX6_bars 120 = .ok (.iload 4, 2) := by decide +kernel
theorem dX6_bars_122 : decode cX6_bars 122 = .ok (.ifCond .lt 16, 3) := by decide +kernel
theorem dX6_bars_125 : decode cX6_bars 125 = .ok (.aload_n 0, 1) := by decide +kernel
theorem dX6_bars_126 : decode cX6_bars 126 = .ok (.getfield 7, 3) := by decide +kernel
theorem dX6_bars_129 : decode cX6_bars 129 = .ok (.iload_n 1, 1) := by decide +kernel
theorem dX6_bars_130 : decode cX6_bars 130 = .ok (.iaload, 1) := by decide +kernel
theorem dX6_bars_131 : decode cX6_bars 131 = .ok (.ifCond .ne 7, 3) := by decide +kernel
theorem dX6_bars_134 : decode cX6_bars 134 = .ok (.iconst 2, 1) := by decide +kernel
theorem dX6_bars_135 : decode cX6_bars 135 = .ok (.goto 4, 3) := by decide +kernel
theorem dX6_bars_138 : decode cX6_bars 138 = .ok (.iconst 1, 1) := by decide +kernel
theorem dX6_bars_139 : decode cX6_bars 139 = .ok (.istore 6, 2) := by decide +kernel
theorem dX6_bars_141 : decode cX6_bars 141 = .ok (.iload 4, 2) := by decide +kernel
theorem dX6_bars_143 : decode cX6_bars 143 = .ok (.ifCond .lt 22, 3) := by decide +kernel
theorem dX6_bars_146 : decode cX6_bars 146 = .ok (.aload_n 0, 1) := by decide +kernel
theorem dX6_bars_147 : decode cX6_bars 147 = .ok (.getfield 45, 3) := by decide +kernel
theorem dX6_bars_150 : decode cX6_bars 150 = .ok (.iconst 5, 1) := by decide +kernel
theorem dX6_bars_151 : decode cX6_bars 151 = .ok (.iload_n 1, 1) := by decide +kernel
theorem dX6_bars_152 : decode cX6_bars 152 = .ok (.imul, 1) := by decide +kernel
theorem dX6_bars_153 : decode cX6_bars 153 = .ok (.iload 4, 2) := by decide +kernel
theorem dX6_bars_155 : decode cX6_bars 155 = .ok (.iadd, 1) := by decide +kernel
theorem dX6_bars_156 : decode cX6_bars 156 = .ok (.iaload, 1) := by decide +kernel
theorem dX6_bars_157 : decode cX6_bars 157 = .ok (.iconst (-1), 1) := by decide +kernel
theorem dX6_bars_158 : decode cX6_bars 158 = .ok (.if_icmp .ne 7, 3) := by decide +kernel
theorem dX6_bars_161 : decode cX6_bars 161 = .ok (.iconst 1, 1) := by decide +kernel
theorem dX6_bars_162 : decode cX6_bars 162 = .ok (.goto 4, 3) := by decide +kernel
theorem dX6_bars_165 : decode cX6_bars 165 = .ok (.iconst 0, 1) := by decide +kernel
theorem dX6_bars_166 : decode cX6_bars 166 = .ok (.istore 7, 2) := by decide +kernel
theorem dX6_bars_168 : decode cX6_bars 168 = .ok (.aload_n 0, 1) := by decide +kernel
theorem dX6_bars_169 : decode cX6_bars 169 = .ok (.getfield 7, 3) := by decide +kernel
theorem dX6_bars_172 : decode cX6_bars 172 = .ok (.iload_n 1, 1) := by decide +kernel
theorem dX6_bars_173 : decode cX6_bars 173 = .ok (.iaload, 1) := by decide +kernel
theorem dX6_bars_174 : decode cX6_bars 174 = .ok (.iload 6, 2) := by decide +kernel
theorem dX6_bars_176 : decode cX6_bars 176 = .ok (.iadd, 1) := by decide +kernel
theorem dX6_bars_177 : decode cX6_bars 177 = .ok (.bipush 24, 2) := by decide +kernel
theorem dX6_bars_179 : decode cX6_bars 179 = .ok (.if_icmp .gt 18, 3) := by decide +kernel
theorem dX6_bars_182 : decode cX6_bars 182 = .ok (.iload 7, 2) := by decide +kernel
theorem dX6_bars_184 : decode cX6_bars 184 = .ok (.ifCond .eq 18, 3) := by decide +kernel
theorem dX6_bars_187 : decode cX6_bars 187 = .ok (.aload_n 0, 1) := by decide +kernel
theorem dX6_bars_188 : decode cX6_bars 188 = .ok (.getfield 27, 3) := by decide +kernel
theorem dX6_bars_191 : decode cX6_bars 191 = .ok (.iload_n 1, 1) := by decide +kernel
theorem dX6_bars_192 : decode cX6_bars 192 = .ok (.iaload, 1) := by decide +kernel
theorem dX6_bars_193 : decode cX6_bars 193 = .ok (.iconst 5, 1) := by decide +kernel
theorem dX6_bars_194 : decode cX6_bars 194 = .ok (.if_icmp .ne 8, 3) := by decide +kernel
theorem dX6_bars_197 : decode cX6_bars 197 = .ok (.bipush (-7), 2) := by decide +kernel
theorem dX6_bars_199 : decode cX6_bars 199 = .ok (.goto 4, 3) := by decide +kernel
theorem dX6_bars_202 : decode cX6_bars 202 = .ok (.iconst 0, 1) := by decide +kernel
theorem dX6_bars_203 : decode cX6_bars 203 = .ok (.ireturn, 1) := by decide +kernel
theorem dX6_selectedBy_0 : decode cX6_selectedBy 0 = .ok (.aload_n 0, 1) := by decide +kernel
theorem dX6_selectedBy_1 : decode cX6_selectedBy 1 = .ok (.getfield 7, 3) := by decide +kernel
theorem dX6_selectedBy_4 : decode cX6_selectedBy 4 = .ok (.iload_n 1, 1) := by decide +kernel
theorem dX6_selectedBy_5 : decode cX6_selectedBy 5 = .ok (.iaload, 1) := by decide +kernel
theorem dX6_selectedBy_6 : decode cX6_selectedBy 6 = .ok (.ifCond .ne 5, 3) := by decide +kernel
theorem dX6_selectedBy_9 : decode cX6_selectedBy 9 = .ok (.iconst (-1), 1) := by decide +kernel
theorem dX6_selectedBy_10 : decode cX6_selectedBy 10 = .ok (.ireturn, 1) := by decide +kernel
theorem dX6_selectedBy_11 : decode cX6_selectedBy 11 = .ok (.iload_n 2, 1) := by decide +kernel
theorem dX6_selectedBy_12 : decode cX6_selectedBy 12 = .ok (.iconst (-1), 1) := by decide +kernel
theorem dX6_selectedBy_13 : decode cX6_selectedBy 13 = .ok (.if_icmp .ne 15, 3) := by decide +kernel
theorem dX6_selectedBy_16 : decode cX6_selectedBy 16 = .ok (.aload_n 0, 1) := by decide +kernel
theorem dX6_selectedBy_17 : decode cX6_selectedBy 17 = .ok (.iload_n 1, 1) := by decide +kernel
theorem dX6_selectedBy_18 : decode cX6_selectedBy 18 = .ok (.aload_n 0, 1) := by decide +kernel
theorem dX6_selectedBy_19 : decode cX6_selectedBy 19 = .ok (.getfield 39, 3) := by decide +kernel
theorem dX6_selectedBy_22 : decode cX6_selectedBy 22 = .ok (.iload_n 1, 1) := by decide +kernel
theorem dX6_selectedBy_23 : decode cX6_selectedBy 23 = .ok (.iaload, 1) := by decide +kernel
theorem dX6_selectedBy_24 : decode cX6_selectedBy 24 = .ok (.invokevirtual 116, 3) := by decide +kernel
theorem dX6_selectedBy_27 : decode cX6_selectedBy 27 = .ok (.ireturn, 1) := by decide +kernel
theorem dX6_selectedBy_28 : decode cX6_selectedBy 28 = .ok (.aload_n 0, 1) := by decide +kernel
theorem dX6_selectedBy_29 : decode cX6_selectedBy 29 = .ok (.getfield 45, 3) := by decide +kernel
theorem dX6_selectedBy_32 : decode cX6_selectedBy 32 = .ok (.iconst 5, 1) := by decide +kernel
theorem dX6_selectedBy_33 : decode cX6_selectedBy 33 = .ok (.iload_n 1, 1) := by decide +kernel
theorem dX6_selectedBy_34 : decode cX6_selectedBy 34 = .ok (.imul, 1) := by decide +kernel
theorem dX6_selectedBy_35 : decode cX6_selectedBy 35 = .ok (.iload_n 2, 1) := by decide +kernel
theorem dX6_selectedBy_36 : decode cX6_selectedBy 36 = .ok (.iadd, 1) := by decide +kernel
theorem dX6_selectedBy_37 : decode cX6_selectedBy 37 = .ok (.iaload, 1) := by decide +kernel
theorem dX6_selectedBy_38 : decode cX6_selectedBy 38 = .ok (.istore_n 3, 1) := by decide +kernel
theorem dX6_selectedBy_39 : decode cX6_selectedBy 39 = .ok (.iload_n 3, 1) := by decide +kernel
theorem dX6_selectedBy_40 : decode cX6_selectedBy 40 = .ok (.iconst (-1), 1) := by decide +kernel
theorem dX6_selectedBy_41 : decode cX6_selectedBy 41 = .ok (.if_icmp .eq 13, 3) := by decide +kernel
theorem dX6_selectedBy_44 : decode cX6_selectedBy 44 = .ok (.aload_n 0, 1) := by decide +kernel
theorem dX6_selectedBy_45 : decode cX6_selectedBy 45 = .ok (.getfield 42, 3) := by decide +kernel
theorem dX6_selectedBy_48 : decode cX6_selectedBy 48 = .ok (.iload_n 2, 1) := by decide +kernel
theorem dX6_selectedBy_49 : decode cX6_selectedBy 49 = .ok (.iaload, 1) := by decide +kernel
theorem dX6_selectedBy_50 : decode cX6_selectedBy 50 = .ok (.iconst 1, 1) := by decide +kernel
theorem dX6_selectedBy_51 : decode cX6_selectedBy 51 = .ok (.if_icmp .ne 5, 3) := by decide +kernel
theorem dX6_selectedBy_54 : decode cX6_selectedBy 54 = .ok (.iload_n 3, 1) := by decide +kernel
theorem dX6_selectedBy_55 : decode cX6_selectedBy 55 = .ok (.ireturn, 1) := by decide +kernel
theorem dX6_selectedBy_56 : decode cX6_selectedBy 56 = .ok (.aload_n 0, 1) := by decide +kernel
theorem dX6_selectedBy_57 : decode cX6_selectedBy 57 = .ok (.iload_n 1, 1) := by decide +kernel
theorem dX6_selectedBy_58 : decode cX6_selectedBy 58 = .ok (.iload_n 3, 1) := by decide +kernel
theorem dX6_selectedBy_59 : decode cX6_selectedBy 59 = .ok (.invokevirtual 116, 3) := by decide +kernel
theorem dX6_selectedBy_62 : decode cX6_selectedBy 62 = .ok (.istore 4, 2) := by decide +kernel
theorem dX6_selectedBy_64 : decode cX6_selectedBy 64 = .ok (.iload 4, 2) := by decide +kernel
theorem dX6_selectedBy_66 : decode cX6_selectedBy 66 = .ok (.ifCond .ge 17, 3) := by decide +kernel
theorem dX6_selectedBy_69 : decode cX6_selectedBy 69 = .ok (.aload_n 0, 1) := by decide +kernel
theorem dX6_selectedBy_70 : decode cX6_selectedBy 70 = .ok (.getfield 30, 3) := by decide +kernel
theorem dX6_selectedBy_73 : decode cX6_selectedBy 73 = .ok (.bipush 6, 2) := by decide +kernel
theorem dX6_selectedBy_75 : decode cX6_selectedBy 75 = .ok (.iload_n 1, 1) := by decide +kernel
theorem dX6_selectedBy_76 : decode cX6_selectedBy 76 = .ok (.imul, 1) := by decide +kernel
theorem dX6_selectedBy_77 : decode cX6_selectedBy 77 = .ok (.iload_n 3, 1) := by decide +kernel
theorem dX6_selectedBy_78 : decode cX6_selectedBy 78 = .ok (.iadd, 1) := by decide +kernel
theorem dX6_selectedBy_79 : decode cX6_selectedBy 79 = .ok (.iaload, 1) := by decide +kernel
theorem dX6_selectedBy_80 : decode cX6_selectedBy 80 = .ok (.goto 5, 3) := by decide +kernel
theorem dX6_selectedBy_83 : decode cX6_selectedBy 83 = .ok (.iload 4, 2) := by decide +kernel
theorem dX6_selectedBy_85 : decode cX6_selectedBy 85 = .ok (.ireturn, 1) := by decide +kernel
theorem dX6_last_0 : decode cX6_last 0 = .ok (.iconst (-1), 1) := by decide +kernel
theorem dX6_last_1 : decode cX6_last 1 = .ok (.istore_n 3, 1) := by decide +kernel
theorem dX6_last_2 : decode cX6_last 2 = .ok (.iconst 0, 1) := by decide +kernel
theorem dX6_last_3 : decode cX6_last 3 = .ok (.istore 4, 2) := by decide +kernel
theorem dX6_last_5 : decode cX6_last 5 = .ok (.iload 4, 2) := by decide +kernel
theorem dX6_last_7 : decode cX6_last 7 = .ok (.aload_n 0, 1) := by decide +kernel
theorem dX6_last_8 : decode cX6_last 8 = .ok (.getfield 7, 3) := by decide +kernel
theorem dX6_last_11 : decode cX6_last 11 = .ok (.iload_n 1, 1) := by decide +kernel
theorem dX6_last_12 : decode cX6_last 12 = .ok (.iaload, 1) := by decide +kernel
theorem dX6_last_13 : decode cX6_last 13 = .ok (.if_icmp .ge 32, 3) := by decide +kernel
theorem dX6_last_16 : decode cX6_last 16 = .ok (.aload_n 0, 1) := by decide +kernel
theorem dX6_last_17 : decode cX6_last 17 = .ok (.getfield 21, 3) := by decide +kernel
theorem dX6_last_20 : decode cX6_last 20 = .ok (.bipush 24, 2) := by decide +kernel
theorem dX6_last_22 : decode cX6_last 22 = .ok (.iload_n 1, 1) := by decide +kernel
theorem dX6_last_23 : decode cX6_last 23 = .ok (.imul, 1) := by decide +kernel
theorem dX6_last_24 : decode cX6_last 24 = .ok (.iload 4, 2) := by decide +kernel
theorem dX6_last_26 : decode cX6_last 26 = .ok (.iadd, 1) := by decide +kernel
theorem dX6_last_27 : decode cX6_last 27 = .ok (.iaload, 1) := by decide +kernel
theorem dX6_last_28 : decode cX6_last 28 = .ok (.iload_n 2, 1) := by decide +kernel
theorem dX6_last_29 : decode cX6_last 29 = .ok (.if_icmp .ne 8, 3) := by decide +kernel
theorem dX6_last_32 : decode cX6_last 32 = .ok (.iload 4, 2) := by decide +kernel
theorem dX6_last_34 : decode cX6_last 34 = .ok (.goto 4, 3) := by decide +kernel
theorem dX6_last_37 : decode cX6_last 37 = .ok (.iload_n 3, 1) := by decide +kernel
theorem dX6_last_38 : decode cX6_last 38 = .ok (.istore_n 3, 1) := by decide +kernel
theorem dX6_last_39 : decode cX6_last 39 = .ok (.iinc 4 1, 3) := by decide +kernel
theorem dX6_last_42 : decode cX6_last 42 = .ok (.goto (-37), 3) := by decide +kernel
theorem dX6_last_45 : decode cX6_last 45 = .ok (.iload_n 3, 1) := by decide +kernel
theorem dX6_last_46 : decode cX6_last 46 = .ok (.ireturn, 1) := by decide +kernel
theorem dX6_noneOrDead_0 : decode cX6_noneOrDead 0 = .ok (.iload_n 2, 1) := by decide +kernel
theorem dX6_noneOrDead_1 : decode cX6_noneOrDead 1 = .ok (.ifCond .lt 17, 3) := by decide +kernel
theorem dX6_noneOrDead_4 : decode cX6_noneOrDead 4 = .ok (.aload_n 0, 1) := by decide +kernel
theorem dX6_noneOrDead_5 : decode cX6_noneOrDead 5 = .ok (.getfield 17, 3) := by decide +kernel
theorem dX6_noneOrDead_8 : decode cX6_noneOrDead 8 = .ok (.bipush 24, 2) := by decide +kernel
theorem dX6_noneOrDead_10 : decode cX6_noneOrDead 10 = .ok (.iload_n 1, 1) := by decide +kernel
theorem dX6_noneOrDead_11 : decode cX6_noneOrDead 11 = .ok (.imul, 1) := by decide +kernel
theorem dX6_noneOrDead_12 : decode cX6_noneOrDead 12 = .ok (.iload_n 2, 1) := by decide +kernel
theorem dX6_noneOrDead_13 : decode cX6_noneOrDead 13 = .ok (.iadd, 1) := by decide +kernel
theorem dX6_noneOrDead_14 : decode cX6_noneOrDead 14 = .ok (.baload, 1) := by decide +kernel
theorem dX6_noneOrDead_15 : decode cX6_noneOrDead 15 = .ok (.ifCond .eq 7, 3) := by decide +kernel
theorem dX6_noneOrDead_18 : decode cX6_noneOrDead 18 = .ok (.iconst 1, 1) := by decide +kernel
theorem dX6_noneOrDead_19 : decode cX6_noneOrDead 19 = .ok (.goto 4, 3) := by decide +kernel
theorem dX6_noneOrDead_22 : decode cX6_noneOrDead 22 = .ok (.iconst 0, 1) := by decide +kernel
theorem dX6_noneOrDead_23 : decode cX6_noneOrDead 23 = .ok (.ireturn, 1) := by decide +kernel
theorem dX6_modified_0 : decode cX6_modified 0 = .ok (.aload_n 0, 1) := by decide +kernel
theorem dX6_modified_1 : decode cX6_modified 1 = .ok (.getfield 51, 3) := by decide +kernel
theorem dX6_modified_4 : decode cX6_modified 4 = .ok (.iload_n 2, 1) := by decide +kernel
theorem dX6_modified_5 : decode cX6_modified 5 = .ok (.baload, 1) := by decide +kernel
theorem dX6_modified_6 : decode cX6_modified 6 = .ok (.ifCond .ne 33, 3) := by decide +kernel
theorem dX6_modified_9 : decode cX6_modified 9 = .ok (.aload_n 0, 1) := by decide +kernel
theorem dX6_modified_10 : decode cX6_modified 10 = .ok (.getfield 54, 3) := by decide +kernel
theorem dX6_modified_13 : decode cX6_modified 13 = .ok (.iload_n 2, 1) := by decide +kernel
theorem dX6_modified_14 : decode cX6_modified 14 = .ok (.laload, 1) := by decide +kernel
theorem dX6_modified_15 : decode cX6_modified 15 = .ok (.aload_n 0, 1) := by decide +kernel
theorem dX6_modified_16 : decode cX6_modified 16 = .ok (.getfield 13, 3) := by decide +kernel
theorem dX6_modified_19 : decode cX6_modified 19 = .ok (.bipush 24, 2) := by decide +kernel
theorem dX6_modified_21 : decode cX6_modified 21 = .ok (.iload_n 1, 1) := by decide +kernel
theorem dX6_modified_22 : decode cX6_modified 22 = .ok (.imul, 1) := by decide +kernel
theorem dX6_modified_23 : decode cX6_modified 23 = .ok (.aload_n 0, 1) := by decide +kernel
theorem dX6_modified_24 : decode cX6_modified 24 = .ok (.getfield 48, 3) := by decide +kernel
theorem dX6_modified_27 : decode cX6_modified 27 = .ok (.iload_n 2, 1) := by decide +kernel
theorem dX6_modified_28 : decode cX6_modified 28 = .ok (.iaload, 1) := by decide +kernel
theorem dX6_modified_29 : decode cX6_modified 29 = .ok (.iadd, 1) := by decide +kernel
theorem dX6_modified_30 : decode cX6_modified 30 = .ok (.laload, 1) := by decide +kernel
theorem dX6_modified_31 : decode cX6_modified 31 = .ok (.lcmp, 1) := by decide +kernel
theorem dX6_modified_32 : decode cX6_modified 32 = .ok (.ifCond .eq 7, 3) := by decide +kernel
theorem dX6_modified_35 : decode cX6_modified 35 = .ok (.iconst 1, 1) := by decide +kernel
theorem dX6_modified_36 : decode cX6_modified 36 = .ok (.goto 4, 3) := by decide +kernel
theorem dX6_modified_39 : decode cX6_modified 39 = .ok (.iconst 0, 1) := by decide +kernel
theorem dX6_modified_40 : decode cX6_modified 40 = .ok (.ireturn, 1) := by decide +kernel
theorem dX6_revise_0 : decode cX6_revise 0 = .ok (.aload_n 0, 1) := by decide +kernel
theorem dX6_revise_1 : decode cX6_revise 1 = .ok (.iload_n 1, 1) := by decide +kernel
theorem dX6_revise_2 : decode cX6_revise 2 = .ok (.iload_n 2, 1) := by decide +kernel
theorem dX6_revise_3 : decode cX6_revise 3 = .ok (.invokevirtual 116, 3) := by decide +kernel
theorem dX6_revise_6 : decode cX6_revise 6 = .ok (.istore 6, 2) := by decide +kernel
theorem dX6_revise_8 : decode cX6_revise 8 = .ok (.bipush 24, 2) := by decide +kernel
theorem dX6_revise_10 : decode cX6_revise 10 = .ok (.iload_n 1, 1) := by decide +kernel
theorem dX6_revise_11 : decode cX6_revise 11 = .ok (.imul, 1) := by decide +kernel
theorem dX6_revise_12 : decode cX6_revise 12 = .ok (.aload_n 0, 1) := by decide +kernel
theorem dX6_revise_13 : decode cX6_revise 13 = .ok (.getfield 7, 3) := by decide +kernel
theorem dX6_revise_16 : decode cX6_revise 16 = .ok (.iload_n 1, 1) := by decide +kernel
theorem dX6_revise_17 : decode cX6_revise 17 = .ok (.iaload, 1) := by decide +kernel
theorem dX6_revise_18 : decode cX6_revise 18 = .ok (.iadd, 1) := by decide +kernel
theorem dX6_revise_19 : decode cX6_revise 19 = .ok (.istore 7, 2) := by decide +kernel
theorem dX6_revise_21 : decode cX6_revise 21 = .ok (.aload_n 0, 1) := by decide +kernel
theorem dX6_revise_22 : decode cX6_revise 22 = .ok (.getfield 13, 3) := by decide +kernel
theorem dX6_revise_25 : decode cX6_revise 25 = .ok (.iload 7, 2) := by decide +kernel
theorem dX6_revise_27 : decode cX6_revise 27 = .ok (.lload_n 3, 1) := by decide +kernel
theorem dX6_revise_28 : decode cX6_revise 28 = .ok (.lastore, 1) := by decide +kernel
theorem dX6_revise_29 : decode cX6_revise 29 = .ok (.aload_n 0, 1) := by decide +kernel
theorem dX6_revise_30 : decode cX6_revise 30 = .ok (.getfield 17, 3) := by decide +kernel
theorem dX6_revise_33 : decode cX6_revise 33 = .ok (.iload 7, 2) := by decide +kernel
theorem dX6_revise_35 : decode cX6_revise 35 = .ok (.iload 5, 2) := by decide +kernel
theorem dX6_revise_37 : decode cX6_revise 37 = .ok (.bastore, 1) := by decide +kernel
theorem dX6_revise_38 : decode cX6_revise 38 = .ok (.aload_n 0, 1) := by decide +kernel
theorem dX6_revise_39 : decode cX6_revise 39 = .ok (.getfield 21, 3) := by decide +kernel
theorem dX6_revise_42 : decode cX6_revise 42 = .ok (.iload 7, 2) := by decide +kernel
theorem dX6_revise_44 : decode cX6_revise 44 = .ok (.iload_n 2, 1) := by decide +kernel
theorem dX6_revise_45 : decode cX6_revise 45 = .ok (.iastore, 1) := by decide +kernel
theorem dX6_revise_46 : decode cX6_revise 46 = .ok (.aload_n 0, 1) := by decide +kernel
theorem dX6_revise_47 : decode cX6_revise 47 = .ok (.getfield 24, 3) := by decide +kernel
theorem dX6_revise_50 : decode cX6_revise 50 = .ok (.iload 7, 2) := by decide +kernel
theorem dX6_revise_52 : decode cX6_revise 52 = .ok (.iload 6, 2) := by decide +kernel
theorem dX6_revise_54 : decode cX6_revise 54 = .ok (.ifCond .ge 7, 3) := by decide +kernel
theorem dX6_revise_57 : decode cX6_revise 57 = .ok (.iconst 1, 1) := by decide +kernel
theorem dX6_revise_58 : decode cX6_revise 58 = .ok (.goto 17, 3) := by decide +kernel
theorem dX6_revise_61 : decode cX6_revise 61 = .ok (.aload_n 0, 1) := by decide +kernel
theorem dX6_revise_62 : decode cX6_revise 62 = .ok (.getfield 24, 3) := by decide +kernel
theorem dX6_revise_65 : decode cX6_revise 65 = .ok (.bipush 24, 2) := by decide +kernel
theorem dX6_revise_67 : decode cX6_revise 67 = .ok (.iload_n 1, 1) := by decide +kernel
theorem dX6_revise_68 : decode cX6_revise 68 = .ok (.imul, 1) := by decide +kernel
theorem dX6_revise_69 : decode cX6_revise 69 = .ok (.iload 6, 2) := by decide +kernel
theorem dX6_revise_71 : decode cX6_revise 71 = .ok (.iadd, 1) := by decide +kernel
theorem dX6_revise_72 : decode cX6_revise 72 = .ok (.iaload, 1) := by decide +kernel
theorem dX6_revise_73 : decode cX6_revise 73 = .ok (.iconst 1, 1) := by decide +kernel
theorem dX6_revise_74 : decode cX6_revise 74 = .ok (.iadd, 1) := by decide +kernel
theorem dX6_revise_75 : decode cX6_revise 75 = .ok (.iastore, 1) := by decide +kernel
theorem dX6_revise_76 : decode cX6_revise 76 = .ok (.aload_n 0, 1) := by decide +kernel
theorem dX6_revise_77 : decode cX6_revise 77 = .ok (.getfield 7, 3) := by decide +kernel
theorem dX6_revise_80 : decode cX6_revise 80 = .ok (.iload_n 1, 1) := by decide +kernel
theorem dX6_revise_81 : decode cX6_revise 81 = .ok (.dup2, 1) := by decide +kernel
theorem dX6_revise_82 : decode cX6_revise 82 = .ok (.iaload, 1) := by decide +kernel
theorem dX6_revise_83 : decode cX6_revise 83 = .ok (.iconst 1, 1) := by decide +kernel
theorem dX6_revise_84 : decode cX6_revise 84 = .ok (.iadd, 1) := by decide +kernel
theorem dX6_revise_85 : decode cX6_revise 85 = .ok (.iastore, 1) := by decide +kernel
theorem dX6_revise_86 : decode cX6_revise 86 = .ok (.aload_n 0, 1) := by decide +kernel
theorem dX6_revise_87 : decode cX6_revise 87 = .ok (.getfield 7, 3) := by decide +kernel
theorem dX6_revise_90 : decode cX6_revise 90 = .ok (.iload_n 1, 1) := by decide +kernel
theorem dX6_revise_91 : decode cX6_revise 91 = .ok (.iaload, 1) := by decide +kernel
theorem dX6_revise_92 : decode cX6_revise 92 = .ok (.iconst 1, 1) := by decide +kernel
theorem dX6_revise_93 : decode cX6_revise 93 = .ok (.isub, 1) := by decide +kernel
theorem dX6_revise_94 : decode cX6_revise 94 = .ok (.ireturn, 1) := by decide +kernel
theorem dX6_freeMagic_0 : decode cX6_freeMagic 0 = .ok (.iconst 2, 1) := by decide +kernel
theorem dX6_freeMagic_1 : decode cX6_freeMagic 1 = .ok (.istore_n 3, 1) := by decide +kernel
theorem dX6_freeMagic_2 : decode cX6_freeMagic 2 = .ok (.iconst 0, 1) := by decide +kernel
theorem dX6_freeMagic_3 : decode cX6_freeMagic 3 = .ok (.istore 4, 2) := by decide +kernel
theorem dX6_freeMagic_5 : decode cX6_freeMagic 5 = .ok (.iload 4, 2) := by decide +kernel
theorem dX6_freeMagic_7 : decode cX6_freeMagic 7 = .ok (.bipush 6, 2) := by decide +kernel
theorem dX6_freeMagic_9 : decode cX6_freeMagic 9 = .ok (.if_icmp .ge 69, 3) := by decide +kernel
theorem dX6_freeMagic_12 : decode cX6_freeMagic 12 = .ok (.iconst 1, 1) := by decide +kernel
theorem dX6_freeMagic_13 : decode cX6_freeMagic 13 = .ok (.istore 5, 2) := by decide +kernel
theorem dX6_freeMagic_15 : decode cX6_freeMagic 15 = .ok (.iload 5, 2) := by decide +kernel
theorem dX6_freeMagic_17 : decode cX6_freeMagic 17 = .ok (.aload_n 0, 1) := by decide +kernel
theorem dX6_freeMagic_18 : decode cX6_freeMagic 18 = .ok (.getfield 27, 3) := by decide +kernel
theorem dX6_freeMagic_21 : decode cX6_freeMagic 21 = .ok (.iload_n 1, 1) := by decide +kernel
theorem dX6_freeMagic_22 : decode cX6_freeMagic 22 = .ok (.iaload, 1) := by decide +kernel
theorem dX6_freeMagic_23 : decode cX6_freeMagic 23 = .ok (.if_icmp .gt 49, 3) := by decide +kernel
theorem dX6_freeMagic_26 : decode cX6_freeMagic 26 = .ok (.aload_n 0, 1) := by decide +kernel
theorem dX6_freeMagic_27 : decode cX6_freeMagic 27 = .ok (.getfield 30, 3) := by decide +kernel
theorem dX6_freeMagic_30 : decode cX6_freeMagic 30 = .ok (.bipush 6, 2) := by decide +kernel
theorem dX6_freeMagic_32 : decode cX6_freeMagic 32 = .ok (.iload_n 1, 1) := by decide +kernel
theorem dX6_freeMagic_33 : decode cX6_freeMagic 33 = .ok (.imul, 1) := by decide +kernel
theorem dX6_freeMagic_34 : decode cX6_freeMagic 34 = .ok (.iload 5, 2) := by decide +kernel
theorem dX6_freeMagic_36 : decode cX6_freeMagic 36 = .ok (.iadd, 1) := by decide +kernel
theorem dX6_freeMagic_37 : decode cX6_freeMagic 37 = .ok (.iaload, 1) := by decide +kernel
theorem dX6_freeMagic_38 : decode cX6_freeMagic 38 = .ok (.iload_n 2, 1) := by decide +kernel
theorem dX6_freeMagic_39 : decode cX6_freeMagic 39 = .ok (.if_icmp .ne 25, 3) := by decide +kernel
theorem dX6_freeMagic_42 : decode cX6_freeMagic 42 = .ok (.aload_n 0, 1) := by decide +kernel
theorem dX6_freeMagic_43 : decode cX6_freeMagic 43 = .ok (.getfield 33, 3) := by decide +kernel
theorem dX6_freeMagic_46 : decode cX6_freeMagic 46 = .ok (.bipush 6, 2) := by decide +kernel
theorem dX6_freeMagic_48 : decode cX6_freeMagic 48 = .ok (.iload_n 1, 1) := by decide +kernel
theorem dX6_freeMagic_49 : decode cX6_freeMagic 49 = .ok (.imul, 1) := by decide +kernel
theorem dX6_freeMagic_50 : decode cX6_freeMagic 50 = .ok (.iload 5, 2) := by decide +kernel
theorem dX6_freeMagic_52 : decode cX6_freeMagic 52 = .ok (.iadd, 1) := by decide +kernel
theorem dX6_freeMagic_53 : decode cX6_freeMagic 53 = .ok (.iaload, 1) := by decide +kernel
theorem dX6_freeMagic_54 : decode cX6_freeMagic 54 = .ok (.iload_n 3, 1) := by decide +kernel
theorem dX6_freeMagic_55 : decode cX6_freeMagic 55 = .ok (.if_icmp .ne 9, 3) := by decide +kernel
theorem dX6_freeMagic_58 : decode cX6_freeMagic 58 = .ok (.iload_n 3, 1) := by decide +kernel
theorem dX6_freeMagic_59 : decode cX6_freeMagic 59 = .ok (.iconst 2, 1) := by decide +kernel
theorem dX6_freeMagic_60 : decode cX6_freeMagic 60 = .ok (.iadd, 1) := by decide +kernel
theorem dX6_freeMagic_61 : decode cX6_freeMagic 61 = .ok (.goto 4, 3) := by decide +kernel
theorem dX6_freeMagic_64 : decode cX6_freeMagic 64 = .ok (.iload_n 3, 1) := by decide +kernel
theorem dX6_freeMagic_65 : decode cX6_freeMagic 65 = .ok (.istore_n 3, 1) := by decide +kernel
theorem dX6_freeMagic_66 : decode cX6_freeMagic 66 = .ok (.iinc 5 1, 3) := by decide +kernel
theorem dX6_freeMagic_69 : decode cX6_freeMagic 69 = .ok (.goto (-54), 3) := by decide +kernel
theorem dX6_freeMagic_72 : decode cX6_freeMagic 72 = .ok (.iinc 4 1, 3) := by decide +kernel
theorem dX6_freeMagic_75 : decode cX6_freeMagic 75 = .ok (.goto (-70), 3) := by decide +kernel
theorem dX6_freeMagic_78 : decode cX6_freeMagic 78 = .ok (.iload_n 3, 1) := by decide +kernel
theorem dX6_freeMagic_79 : decode cX6_freeMagic 79 = .ok (.ireturn, 1) := by decide +kernel
theorem dX6_branchAt_0 : decode cX6_branchAt 0 = .ok (.aload_n 0, 1) := by decide +kernel
theorem dX6_branchAt_1 : decode cX6_branchAt 1 = .ok (.getfield 27, 3) := by decide +kernel
theorem dX6_branchAt_4 : decode cX6_branchAt 4 = .ok (.iload_n 1, 1) := by decide +kernel
theorem dX6_branchAt_5 : decode cX6_branchAt 5 = .ok (.iaload, 1) := by decide +kernel
theorem dX6_branchAt_6 : decode cX6_branchAt 6 = .ok (.iconst 1, 1) := by decide +kernel
theorem dX6_branchAt_7 : decode cX6_branchAt 7 = .ok (.iadd, 1) := by decide +kernel
theorem dX6_branchAt_8 : decode cX6_branchAt 8 = .ok (.istore 4, 2) := by decide +kernel
theorem dX6_branchAt_10 : decode cX6_branchAt 10 = .ok (.aload_n 0, 1) := by decide +kernel
theorem dX6_branchAt_11 : decode cX6_branchAt 11 = .ok (.getfield 30, 3) := by decide +kernel
theorem dX6_branchAt_14 : decode cX6_branchAt 14 = .ok (.bipush 6, 2) := by decide +kernel
theorem dX6_branchAt_16 : decode cX6_branchAt 16 = .ok (.iload_n 1, 1) := by decide +kernel
theorem dX6_branchAt_17 : decode cX6_branchAt 17 = .ok (.imul, 1) := by decide +kernel
theorem dX6_branchAt_18 : decode cX6_branchAt 18 = .ok (.iload 4, 2) := by decide +kernel
theorem dX6_branchAt_20 : decode cX6_branchAt 20 = .ok (.iadd, 1) := by decide +kernel
theorem dX6_branchAt_21 : decode cX6_branchAt 21 = .ok (.iload_n 2, 1) := by decide +kernel
theorem dX6_branchAt_22 : decode cX6_branchAt 22 = .ok (.iastore, 1) := by decide +kernel
theorem dX6_branchAt_23 : decode cX6_branchAt 23 = .ok (.aload_n 0, 1) := by decide +kernel
theorem dX6_branchAt_24 : decode cX6_branchAt 24 = .ok (.getfield 33, 3) := by decide +kernel
theorem dX6_branchAt_27 : decode cX6_branchAt 27 = .ok (.bipush 6, 2) := by decide +kernel
theorem dX6_branchAt_29 : decode cX6_branchAt 29 = .ok (.iload_n 1, 1) := by decide +kernel
theorem dX6_branchAt_30 : decode cX6_branchAt 30 = .ok (.imul, 1) := by decide +kernel
theorem dX6_branchAt_31 : decode cX6_branchAt 31 = .ok (.iload 4, 2) := by decide +kernel
theorem dX6_branchAt_33 : decode cX6_branchAt 33 = .ok (.iadd, 1) := by decide +kernel
theorem dX6_branchAt_34 : decode cX6_branchAt 34 = .ok (.iload_n 3, 1) := by decide +kernel
theorem dX6_branchAt_35 : decode cX6_branchAt 35 = .ok (.iastore, 1) := by decide +kernel
theorem dX6_branchAt_36 : decode cX6_branchAt 36 = .ok (.aload_n 0, 1) := by decide +kernel
theorem dX6_branchAt_37 : decode cX6_branchAt 37 = .ok (.getfield 27, 3) := by decide +kernel
theorem dX6_branchAt_40 : decode cX6_branchAt 40 = .ok (.iload_n 1, 1) := by decide +kernel
theorem dX6_branchAt_41 : decode cX6_branchAt 41 = .ok (.dup2, 1) := by decide +kernel
theorem dX6_branchAt_42 : decode cX6_branchAt 42 = .ok (.iaload, 1) := by decide +kernel
theorem dX6_branchAt_43 : decode cX6_branchAt 43 = .ok (.iconst 1, 1) := by decide +kernel
theorem dX6_branchAt_44 : decode cX6_branchAt 44 = .ok (.iadd, 1) := by decide +kernel
theorem dX6_branchAt_45 : decode cX6_branchAt 45 = .ok (.iastore, 1) := by decide +kernel
theorem dX6_branchAt_46 : decode cX6_branchAt 46 = .ok (.iload 4, 2) := by decide +kernel
theorem dX6_branchAt_48 : decode cX6_branchAt 48 = .ok (.ireturn, 1) := by decide +kernel
theorem dX6_update_0 : decode cX6_update 0 = .ok (.iload_n 1, 1) := by decide +kernel
theorem dX6_update_1 : decode cX6_update 1 = .ok (.iload_n 2, 1) := by decide +kernel
theorem dX6_update_2 : decode cX6_update 2 = .ok (.invokestatic 120, 3) := by decide +kernel
theorem dX6_update_5 : decode cX6_update 5 = .ok (.ifCond .ne 30, 3) := by decide +kernel
theorem dX6_update_8 : decode cX6_update 8 = .ok (.iload_n 3, 1) := by decide +kernel
theorem dX6_update_9 : decode cX6_update 9 = .ok (.iconst (-1), 1) := by decide +kernel
theorem dX6_update_10 : decode cX6_update 10 = .ok (.if_icmp .lt 25, 3) := by decide +kernel
theorem dX6_update_13 : decode cX6_update 13 = .ok (.iload_n 3, 1) := by decide +kernel
theorem dX6_update_14 : decode cX6_update 14 = .ok (.iconst 5, 1) := by decide +kernel
theorem dX6_update_15 : decode cX6_update 15 = .ok (.if_icmp .gt 20, 3) := by decide +kernel
theorem dX6_update_18 : decode cX6_update 18 = .ok (.iload_n 3, 1) := by decide +kernel
theorem dX6_update_19 : decode cX6_update 19 = .ok (.iconst 5, 1) := by decide +kernel
theorem dX6_update_20 : decode cX6_update 20 = .ok (.invokestatic 72, 3) := by decide +kernel
theorem dX6_update_23 : decode cX6_update 23 = .ok (.ifCond .eq 14, 3) := by decide +kernel
theorem dX6_update_26 : decode cX6_update 26 = .ok (.aload_n 0, 1) := by decide +kernel
theorem dX6_update_27 : decode cX6_update 27 = .ok (.getfield 42, 3) := by decide +kernel
theorem dX6_update_30 : decode cX6_update 30 = .ok (.iload_n 3, 1) := by decide +kernel
theorem dX6_update_31 : decode cX6_update 31 = .ok (.iaload, 1) := by decide +kernel
theorem dX6_update_32 : decode cX6_update 32 = .ok (.ifCond .ne 5, 3) := by decide +kernel
theorem dX6_update_35 : decode cX6_update 35 = .ok (.iconst (-1), 1) := by decide +kernel
theorem dX6_update_36 : decode cX6_update 36 = .ok (.ireturn, 1) := by decide +kernel
theorem dX6_update_37 : decode cX6_update 37 = .ok (.iconst 4, 1) := by decide +kernel
theorem dX6_update_38 : decode cX6_update 38 = .ok (.iload_n 1, 1) := by decide +kernel
theorem dX6_update_39 : decode cX6_update 39 = .ok (.imul, 1) := by decide +kernel
theorem dX6_update_40 : decode cX6_update 40 = .ok (.iload_n 2, 1) := by decide +kernel
theorem dX6_update_41 : decode cX6_update 41 = .ok (.iadd, 1) := by decide +kernel
theorem dX6_update_42 : decode cX6_update 42 = .ok (.istore 4, 2) := by decide +kernel
theorem dX6_update_44 : decode cX6_update 44 = .ok (.iload_n 3, 1) := by decide +kernel
theorem dX6_update_45 : decode cX6_update 45 = .ok (.iconst (-1), 1) := by decide +kernel
theorem dX6_update_46 : decode cX6_update 46 = .ok (.if_icmp .ne 13, 3) := by decide +kernel
theorem dX6_update_49 : decode cX6_update 49 = .ok (.aload_n 0, 1) := by decide +kernel
theorem dX6_update_50 : decode cX6_update 50 = .ok (.getfield 57, 3) := by decide +kernel
theorem dX6_update_53 : decode cX6_update 53 = .ok (.iload 4, 2) := by decide +kernel
theorem dX6_update_55 : decode cX6_update 55 = .ok (.iaload, 1) := by decide +kernel
theorem dX6_update_56 : decode cX6_update 56 = .ok (.goto 13, 3) := by decide +kernel
theorem dX6_update_59 : decode cX6_update 59 = .ok (.iload_n 3, 1) := by decide +kernel
theorem dX6_update_60 : decode cX6_update 60 = .ok (.iconst 5, 1) := by decide +kernel
theorem dX6_update_61 : decode cX6_update 61 = .ok (.if_icmp .ne 7, 3) := by decide +kernel
theorem dX6_update_64 : decode cX6_update 64 = .ok (.iconst (-1), 1) := by decide +kernel
theorem dX6_update_65 : decode cX6_update 65 = .ok (.goto 4, 3) := by decide +kernel
theorem dX6_update_68 : decode cX6_update 68 = .ok (.iload_n 3, 1) := by decide +kernel
theorem dX6_update_69 : decode cX6_update 69 = .ok (.istore 5, 2) := by decide +kernel
theorem dX6_update_71 : decode cX6_update 71 = .ok (.aload_n 0, 1) := by decide +kernel
theorem dX6_update_72 : decode cX6_update 72 = .ok (.iload_n 2, 1) := by decide +kernel
theorem dX6_update_73 : decode cX6_update 73 = .ok (.iload 4, 2) := by decide +kernel
theorem dX6_update_75 : decode cX6_update 75 = .ok (.aload_n 0, 1) := by decide +kernel
theorem dX6_update_76 : decode cX6_update 76 = .ok (.iload_n 2, 1) := by decide +kernel
theorem dX6_update_77 : decode cX6_update 77 = .ok (.iload 5, 2) := by decide +kernel
theorem dX6_update_79 : decode cX6_update 79 = .ok (.invokevirtual 134, 3) := by decide +kernel
theorem dX6_update_82 : decode cX6_update 82 = .ok (.invokevirtual 169, 3) := by decide +kernel
theorem dX6_update_85 : decode cX6_update 85 = .ok (.istore 6, 2) := by decide +kernel
theorem dX6_update_87 : decode cX6_update 87 = .ok (.aload_n 0, 1) := by decide +kernel
theorem dX6_update_88 : decode cX6_update 88 = .ok (.getfield 57, 3) := by decide +kernel
theorem dX6_update_91 : decode cX6_update 91 = .ok (.iload 4, 2) := by decide +kernel
theorem dX6_update_93 : decode cX6_update 93 = .ok (.iload 6, 2) := by decide +kernel
theorem dX6_update_95 : decode cX6_update 95 = .ok (.iconst 3, 1) := by decide +kernel
theorem dX6_update_96 : decode cX6_update 96 = .ok (.if_icmp .eq 10, 3) := by decide +kernel
theorem dX6_update_99 : decode cX6_update 99 = .ok (.iload 6, 2) := by decide +kernel
theorem dX6_update_101 : decode cX6_update 101 = .ok (.bipush (-7), 2) := by decide +kernel
theorem dX6_update_103 : decode cX6_update 103 = .ok (.if_icmp .ne 13, 3) := by decide +kernel
theorem dX6_update_106 : decode cX6_update 106 = .ok (.aload_n 0, 1) := by decide +kernel
theorem dX6_update_107 : decode cX6_update 107 = .ok (.getfield 57, 3) := by decide +kernel
theorem dX6_update_110 : decode cX6_update 110 = .ok (.iload 4, 2) := by decide +kernel
theorem dX6_update_112 : decode cX6_update 112 = .ok (.iaload, 1) := by decide +kernel
theorem dX6_update_113 : decode cX6_update 113 = .ok (.goto 5, 3) := by decide +kernel
theorem dX6_update_116 : decode cX6_update 116 = .ok (.iload 5, 2) := by decide +kernel
theorem dX6_update_118 : decode cX6_update 118 = .ok (.iastore, 1) := by decide +kernel
theorem dX6_update_119 : decode cX6_update 119 = .ok (.iload 6, 2) := by decide +kernel
theorem dX6_update_121 : decode cX6_update 121 = .ok (.ireturn, 1) := by decide +kernel
theorem dX6_updated_0 : decode cX6_updated 0 = .ok (.aload_n 0, 1) := by decide +kernel
theorem dX6_updated_1 : decode cX6_updated 1 = .ok (.getfield 48, 3) := by decide +kernel
theorem dX6_updated_4 : decode cX6_updated 4 = .ok (.iload_n 2, 1) := by decide +kernel
theorem dX6_updated_5 : decode cX6_updated 5 = .ok (.iaload, 1) := by decide +kernel
theorem dX6_updated_6 : decode cX6_updated 6 = .ok (.istore 4, 2) := by decide +kernel
theorem dX6_updated_8 : decode cX6_updated 8 = .ok (.aload_n 0, 1) := by decide +kernel
theorem dX6_updated_9 : decode cX6_updated 9 = .ok (.iload_n 1, 1) := by decide +kernel
theorem dX6_updated_10 : decode cX6_updated 10 = .ok (.iload_n 3, 1) := by decide +kernel
theorem dX6_updated_11 : decode cX6_updated 11 = .ok (.invokevirtual 137, 3) := by decide +kernel
theorem dX6_updated_14 : decode cX6_updated 14 = .ok (.istore 5, 2) := by decide +kernel
theorem dX6_updated_16 : decode cX6_updated 16 = .ok (.iload 4, 2) := by decide +kernel
theorem dX6_updated_18 : decode cX6_updated 18 = .ok (.iconst (-1), 1) := by decide +kernel
theorem dX6_updated_19 : decode cX6_updated 19 = .ok (.if_icmp .ne 26, 3) := by decide +kernel
theorem dX6_updated_22 : decode cX6_updated 22 = .ok (.iload 5, 2) := by decide +kernel
theorem dX6_updated_24 : decode cX6_updated 24 = .ok (.ifCond .ne 10, 3) := by decide +kernel
theorem dX6_updated_27 : decode cX6_updated 27 = .ok (.aload_n 0, 1) := by decide +kernel
theorem dX6_updated_28 : decode cX6_updated 28 = .ok (.iload_n 1, 1) := by decide +kernel
theorem dX6_updated_29 : decode cX6_updated 29 = .ok (.iload_n 2, 1) := by decide +kernel
theorem dX6_updated_30 : decode cX6_updated 30 = .ok (.iload_n 3, 1) := by decide +kernel
theorem dX6_updated_31 : decode cX6_updated 31 = .ok (.invokevirtual 157, 3) := by decide +kernel
theorem dX6_updated_34 : decode cX6_updated 34 = .ok (.iload 5, 2) := by decide +kernel
theorem dX6_updated_36 : decode cX6_updated 36 = .ok (.ifCond .eq 7, 3) := by decide +kernel
theorem dX6_updated_39 : decode cX6_updated 39 = .ok (.iconst 0, 1) := by decide +kernel
theorem dX6_updated_40 : decode cX6_updated 40 = .ok (.goto 4, 3) := by decide +kernel
theorem dX6_updated_43 : decode cX6_updated 43 = .ok (.iconst 2, 1) := by decide +kernel
theorem dX6_updated_44 : decode cX6_updated 44 = .ok (.ireturn, 1) := by decide +kernel
theorem dX6_updated_45 : decode cX6_updated 45 = .ok (.iload 4, 2) := by decide +kernel
theorem dX6_updated_47 : decode cX6_updated 47 = .ok (.bipush (-2), 2) := by decide +kernel
theorem dX6_updated_49 : decode cX6_updated 49 = .ok (.if_icmp .ne 14, 3) := by decide +kernel
theorem dX6_updated_52 : decode cX6_updated 52 = .ok (.iload 5, 2) := by decide +kernel
theorem dX6_updated_54 : decode cX6_updated 54 = .ok (.ifCond .eq 7, 3) := by decide +kernel
theorem dX6_updated_57 : decode cX6_updated 57 = .ok (.iconst 0, 1) := by decide +kernel
theorem dX6_updated_58 : decode cX6_updated 58 = .ok (.goto 4, 3) := by decide +kernel
theorem dX6_updated_61 : decode cX6_updated 61 = .ok (.iconst 3, 1) := by decide +kernel
theorem dX6_updated_62 : decode cX6_updated 62 = .ok (.ireturn, 1) := by decide +kernel
theorem dX6_updated_63 : decode cX6_updated 63 = .ok (.iload 5, 2) := by decide +kernel
theorem dX6_updated_65 : decode cX6_updated 65 = .ok (.ifCond .eq 14, 3) := by decide +kernel
theorem dX6_updated_68 : decode cX6_updated 68 = .ok (.aload_n 0, 1) := by decide +kernel
theorem dX6_updated_69 : decode cX6_updated 69 = .ok (.iload_n 1, 1) := by decide +kernel
theorem dX6_updated_70 : decode cX6_updated 70 = .ok (.iload_n 2, 1) := by decide +kernel
theorem dX6_updated_71 : decode cX6_updated 71 = .ok (.invokevirtual 140, 3) := by decide +kernel
theorem dX6_updated_74 : decode cX6_updated 74 = .ok (.ifCond .eq 5, 3) := by decide +kernel
theorem dX6_updated_77 : decode cX6_updated 77 = .ok (.iconst 3, 1) := by decide +kernel
theorem dX6_updated_78 : decode cX6_updated 78 = .ok (.ireturn, 1) := by decide +kernel
theorem dX6_updated_79 : decode cX6_updated 79 = .ok (.iload 5, 2) := by decide +kernel
theorem dX6_updated_81 : decode cX6_updated 81 = .ok (.ifCond .eq 19, 3) := by decide +kernel
theorem dX6_updated_84 : decode cX6_updated 84 = .ok (.aload_n 0, 1) := by decide +kernel
theorem dX6_updated_85 : decode cX6_updated 85 = .ok (.getfield 48, 3) := by decide +kernel
theorem dX6_updated_88 : decode cX6_updated 88 = .ok (.iload_n 2, 1) := by decide +kernel
theorem dX6_updated_89 : decode cX6_updated 89 = .ok (.iconst (-1), 1) := by decide +kernel
theorem dX6_updated_90 : decode cX6_updated 90 = .ok (.iastore, 1) := by decide +kernel
theorem dX6_updated_91 : decode cX6_updated 91 = .ok (.aload_n 0, 1) := by decide +kernel
theorem dX6_updated_92 : decode cX6_updated 92 = .ok (.getfield 51, 3) := by decide +kernel
theorem dX6_updated_95 : decode cX6_updated 95 = .ok (.iload_n 2, 1) := by decide +kernel
theorem dX6_updated_96 : decode cX6_updated 96 = .ok (.iconst 0, 1) := by decide +kernel
theorem dX6_updated_97 : decode cX6_updated 97 = .ok (.bastore, 1) := by decide +kernel
theorem dX6_updated_98 : decode cX6_updated 98 = .ok (.iconst 1, 1) := by decide +kernel
theorem dX6_updated_99 : decode cX6_updated 99 = .ok (.ireturn, 1) := by decide +kernel
theorem dX6_updated_100 : decode cX6_updated 100 = .ok (.aload_n 0, 1) := by decide +kernel
theorem dX6_updated_101 : decode cX6_updated 101 = .ok (.getfield 51, 3) := by decide +kernel
theorem dX6_updated_104 : decode cX6_updated 104 = .ok (.iload_n 2, 1) := by decide +kernel
theorem dX6_updated_105 : decode cX6_updated 105 = .ok (.baload, 1) := by decide +kernel
theorem dX6_updated_106 : decode cX6_updated 106 = .ok (.ifCond .ne 9, 3) := by decide +kernel
theorem dX6_updated_109 : decode cX6_updated 109 = .ok (.iload_n 3, 1) := by decide +kernel
theorem dX6_updated_110 : decode cX6_updated 110 = .ok (.iload 4, 2) := by decide +kernel
theorem dX6_updated_112 : decode cX6_updated 112 = .ok (.if_icmp .ne 5, 3) := by decide +kernel
theorem dX6_updated_115 : decode cX6_updated 115 = .ok (.iconst 0, 1) := by decide +kernel
theorem dX6_updated_116 : decode cX6_updated 116 = .ok (.ireturn, 1) := by decide +kernel
theorem dX6_updated_117 : decode cX6_updated 117 = .ok (.aload_n 0, 1) := by decide +kernel
theorem dX6_updated_118 : decode cX6_updated 118 = .ok (.iload_n 1, 1) := by decide +kernel
theorem dX6_updated_119 : decode cX6_updated 119 = .ok (.iload_n 2, 1) := by decide +kernel
theorem dX6_updated_120 : decode cX6_updated 120 = .ok (.invokevirtual 140, 3) := by decide +kernel
theorem dX6_updated_123 : decode cX6_updated 123 = .ok (.ifCond .ne 12, 3) := by decide +kernel
theorem dX6_updated_126 : decode cX6_updated 126 = .ok (.aload_n 0, 1) := by decide +kernel
theorem dX6_updated_127 : decode cX6_updated 127 = .ok (.iload_n 1, 1) := by decide +kernel
theorem dX6_updated_128 : decode cX6_updated 128 = .ok (.iload_n 2, 1) := by decide +kernel
theorem dX6_updated_129 : decode cX6_updated 129 = .ok (.iload_n 3, 1) := by decide +kernel
theorem dX6_updated_130 : decode cX6_updated 130 = .ok (.invokevirtual 157, 3) := by decide +kernel
theorem dX6_updated_133 : decode cX6_updated 133 = .ok (.iconst 2, 1) := by decide +kernel
theorem dX6_updated_134 : decode cX6_updated 134 = .ok (.ireturn, 1) := by decide +kernel
theorem dX6_updated_135 : decode cX6_updated 135 = .ok (.aload_n 0, 1) := by decide +kernel
theorem dX6_updated_136 : decode cX6_updated 136 = .ok (.aload_n 0, 1) := by decide +kernel
theorem dX6_updated_137 : decode cX6_updated 137 = .ok (.getfield 13, 3) := by decide +kernel
theorem dX6_updated_140 : decode cX6_updated 140 = .ok (.bipush 24, 2) := by decide +kernel
theorem dX6_updated_142 : decode cX6_updated 142 = .ok (.iload_n 1, 1) := by decide +kernel
theorem dX6_updated_143 : decode cX6_updated 143 = .ok (.imul, 1) := by decide +kernel
theorem dX6_updated_144 : decode cX6_updated 144 = .ok (.iload 4, 2) := by decide +kernel
theorem dX6_updated_146 : decode cX6_updated 146 = .ok (.iadd, 1) := by decide +kernel
theorem dX6_updated_147 : decode cX6_updated 147 = .ok (.laload, 1) := by decide +kernel
theorem dX6_updated_148 : decode cX6_updated 148 = .ok (.aload_n 0, 1) := by decide +kernel
theorem dX6_updated_149 : decode cX6_updated 149 = .ok (.getfield 54, 3) := by decide +kernel
theorem dX6_updated_152 : decode cX6_updated 152 = .ok (.iload_n 2, 1) := by decide +kernel
theorem dX6_updated_153 : decode cX6_updated 153 = .ok (.laload, 1) := by decide +kernel
theorem dX6_updated_154 : decode cX6_updated 154 = .ok (.aload_n 0, 1) := by decide +kernel
theorem dX6_updated_155 : decode cX6_updated 155 = .ok (.getfield 13, 3) := by decide +kernel
theorem dX6_updated_158 : decode cX6_updated 158 = .ok (.bipush 24, 2) := by decide +kernel
theorem dX6_updated_160 : decode cX6_updated 160 = .ok (.iload_n 1, 1) := by decide +kernel
theorem dX6_updated_161 : decode cX6_updated 161 = .ok (.imul, 1) := by decide +kernel
theorem dX6_updated_162 : decode cX6_updated 162 = .ok (.iload_n 3, 1) := by decide +kernel
theorem dX6_updated_163 : decode cX6_updated 163 = .ok (.iadd, 1) := by decide +kernel
theorem dX6_updated_164 : decode cX6_updated 164 = .ok (.laload, 1) := by decide +kernel
theorem dX6_updated_165 : decode cX6_updated 165 = .ok (.invokevirtual 161, 3) := by decide +kernel
theorem dX6_updated_168 : decode cX6_updated 168 = .ok (.aload_n 0, 1) := by decide +kernel
theorem dX6_updated_169 : decode cX6_updated 169 = .ok (.getfield 92, 3) := by decide +kernel
theorem dX6_updated_172 : decode cX6_updated 172 = .ok (.bipush 12, 2) := by decide +kernel
theorem dX6_updated_174 : decode cX6_updated 174 = .ok (.if_icmp .le 6, 3) := by decide +kernel
theorem dX6_updated_177 : decode cX6_updated 177 = .ok (.bipush (-7), 2) := by decide +kernel
theorem dX6_updated_179 : decode cX6_updated 179 = .ok (.ireturn, 1) := by decide +kernel
theorem dX6_updated_180 : decode cX6_updated 180 = .ok (.aload_n 0, 1) := by decide +kernel
theorem dX6_updated_181 : decode cX6_updated 181 = .ok (.getfield 54, 3) := by decide +kernel
theorem dX6_updated_184 : decode cX6_updated 184 = .ok (.iload_n 2, 1) := by decide +kernel
theorem dX6_updated_185 : decode cX6_updated 185 = .ok (.aload_n 0, 1) := by decide +kernel
theorem dX6_updated_186 : decode cX6_updated 186 = .ok (.invokevirtual 165, 3) := by decide +kernel
theorem dX6_updated_189 : decode cX6_updated 189 = .ok (.lastore, 1) := by decide +kernel
theorem dX6_updated_190 : decode cX6_updated 190 = .ok (.aload_n 0, 1) := by decide +kernel
theorem dX6_updated_191 : decode cX6_updated 191 = .ok (.getfield 48, 3) := by decide +kernel
theorem dX6_updated_194 : decode cX6_updated 194 = .ok (.iload_n 2, 1) := by decide +kernel
theorem dX6_updated_195 : decode cX6_updated 195 = .ok (.iload_n 3, 1) := by decide +kernel
theorem dX6_updated_196 : decode cX6_updated 196 = .ok (.iastore, 1) := by decide +kernel
theorem dX6_updated_197 : decode cX6_updated 197 = .ok (.aload_n 0, 1) := by decide +kernel
theorem dX6_updated_198 : decode cX6_updated 198 = .ok (.getfield 104, 3) := by decide +kernel
theorem dX6_updated_201 : decode cX6_updated 201 = .ok (.ifCond .eq 7, 3) := by decide +kernel
theorem dX6_updated_204 : decode cX6_updated 204 = .ok (.iconst 5, 1) := by decide +kernel
theorem dX6_updated_205 : decode cX6_updated 205 = .ok (.goto 4, 3) := by decide +kernel
theorem dX6_updated_208 : decode cX6_updated 208 = .ok (.iconst 4, 1) := by decide +kernel
theorem dX6_updated_209 : decode cX6_updated 209 = .ok (.ireturn, 1) := by decide +kernel
theorem dX6_take_0 : decode cX6_take 0 = .ok (.aload_n 0, 1) := by decide +kernel
theorem dX6_take_1 : decode cX6_take 1 = .ok (.getfield 48, 3) := by decide +kernel
theorem dX6_take_4 : decode cX6_take 4 = .ok (.iload_n 2, 1) := by decide +kernel
theorem dX6_take_5 : decode cX6_take 5 = .ok (.iload_n 3, 1) := by decide +kernel
theorem dX6_take_6 : decode cX6_take 6 = .ok (.iastore, 1) := by decide +kernel
theorem dX6_take_7 : decode cX6_take 7 = .ok (.aload_n 0, 1) := by decide +kernel
theorem dX6_take_8 : decode cX6_take 8 = .ok (.getfield 51, 3) := by decide +kernel
theorem dX6_take_11 : decode cX6_take 11 = .ok (.iload_n 2, 1) := by decide +kernel
theorem dX6_take_12 : decode cX6_take 12 = .ok (.iconst 0, 1) := by decide +kernel
theorem dX6_take_13 : decode cX6_take 13 = .ok (.bastore, 1) := by decide +kernel
theorem dX6_take_14 : decode cX6_take 14 = .ok (.aload_n 0, 1) := by decide +kernel
theorem dX6_take_15 : decode cX6_take 15 = .ok (.getfield 54, 3) := by decide +kernel
theorem dX6_take_18 : decode cX6_take 18 = .ok (.iload_n 2, 1) := by decide +kernel
theorem dX6_take_19 : decode cX6_take 19 = .ok (.aload_n 0, 1) := by decide +kernel
theorem dX6_take_20 : decode cX6_take 20 = .ok (.getfield 13, 3) := by decide +kernel
theorem dX6_take_23 : decode cX6_take 23 = .ok (.bipush 24, 2) := by decide +kernel
theorem dX6_take_25 : decode cX6_take 25 = .ok (.iload_n 1, 1) := by decide +kernel
theorem dX6_take_26 : decode cX6_take 26 = .ok (.imul, 1) := by decide +kernel
theorem dX6_take_27 : decode cX6_take 27 = .ok (.iload_n 3, 1) := by decide +kernel
theorem dX6_take_28 : decode cX6_take 28 = .ok (.iadd, 1) := by decide +kernel
theorem dX6_take_29 : decode cX6_take 29 = .ok (.laload, 1) := by decide +kernel
theorem dX6_take_30 : decode cX6_take 30 = .ok (.lastore, 1) := by decide +kernel
theorem dX6_take_31 : decode cX6_take 31 = .ok (.return_, 1) := by decide +kernel
theorem dX6_merge_0 : decode cX6_merge 0 = .ok (.aload_n 0, 1) := by decide +kernel
theorem dX6_merge_1 : decode cX6_merge 1 = .ok (.lload_n 1, 1) := by decide +kernel
theorem dX6_merge_2 : decode cX6_merge 2 = .ok (.lload_n 3, 1) := by decide +kernel
theorem dX6_merge_3 : decode cX6_merge 3 = .ok (.iconst 1, 1) := by decide +kernel
theorem dX6_merge_4 : decode cX6_merge 4 = .ok (.invokevirtual 100, 3) := by decide +kernel
theorem dX6_merge_7 : decode cX6_merge 7 = .ok (.aload_n 0, 1) := by decide +kernel
theorem dX6_merge_8 : decode cX6_merge 8 = .ok (.lload_n 1, 1) := by decide +kernel
theorem dX6_merge_9 : decode cX6_merge 9 = .ok (.lload 5, 2) := by decide +kernel
theorem dX6_merge_11 : decode cX6_merge 11 = .ok (.iconst 0, 1) := by decide +kernel
theorem dX6_merge_12 : decode cX6_merge 12 = .ok (.invokevirtual 100, 3) := by decide +kernel
theorem dX6_merge_15 : decode cX6_merge 15 = .ok (.aload_n 0, 1) := by decide +kernel
theorem dX6_merge_16 : decode cX6_merge 16 = .ok (.iconst 0, 1) := by decide +kernel
theorem dX6_merge_17 : decode cX6_merge 17 = .ok (.putfield 92, 3) := by decide +kernel
theorem dX6_merge_20 : decode cX6_merge 20 = .ok (.aload_n 0, 1) := by decide +kernel
theorem dX6_merge_21 : decode cX6_merge 21 = .ok (.iconst 0, 1) := by decide +kernel
theorem dX6_merge_22 : decode cX6_merge 22 = .ok (.putfield 104, 3) := by decide +kernel
theorem dX6_merge_25 : decode cX6_merge 25 = .ok (.iconst 0, 1) := by decide +kernel
theorem dX6_merge_26 : decode cX6_merge 26 = .ok (.istore 7, 2) := by decide +kernel
theorem dX6_merge_28 : decode cX6_merge 28 = .ok (.iconst 0, 1) := by decide +kernel
theorem dX6_merge_29 : decode cX6_merge 29 = .ok (.istore 8, 2) := by decide +kernel
theorem dX6_merge_31 : decode cX6_merge 31 = .ok (.iconst 0, 1) := by decide +kernel
theorem dX6_merge_32 : decode cX6_merge 32 = .ok (.istore 9, 2) := by decide +kernel
theorem dX6_merge_34 : decode cX6_merge 34 = .ok (.iconst 0, 1) := by decide +kernel
theorem dX6_merge_35 : decode cX6_merge 35 = .ok (.istore 10, 2) := by decide +kernel
theorem dX6_merge_37 : decode cX6_merge 37 = .ok (.iload 10, 2) := by decide +kernel
theorem dX6_merge_39 : decode cX6_merge 39 = .ok (.lload_n 1, 1) := by decide +kernel
theorem dX6_merge_40 : decode cX6_merge 40 = .ok (.invokestatic 78, 3) := by decide +kernel
theorem dX6_merge_43 : decode cX6_merge 43 = .ok (.if_icmp .gt 252, 3) := by decide +kernel
theorem dX6_merge_46 : decode cX6_merge 46 = .ok (.iload 10, 2) := by decide +kernel
theorem dX6_merge_48 : decode cX6_merge 48 = .ok (.lload_n 1, 1) := by decide +kernel
theorem dX6_merge_49 : decode cX6_merge 49 = .ok (.invokestatic 78, 3) := by decide +kernel
theorem dX6_merge_52 : decode cX6_merge 52 = .ok (.if_icmp .ge 27, 3) := by decide +kernel
theorem dX6_merge_55 : decode cX6_merge 55 = .ok (.aload_n 0, 1) := by decide +kernel
theorem dX6_merge_56 : decode cX6_merge 56 = .ok (.getfield 63, 3) := by decide +kernel
theorem dX6_merge_59 : decode cX6_merge 59 = .ok (.iload 10, 2) := by decide +kernel
theorem dX6_merge_61 : decode cX6_merge 61 = .ok (.iaload, 1) := by decide +kernel
theorem dX6_merge_62 : decode cX6_merge 62 = .ok (.ifCond .lt 17, 3) := by decide +kernel
theorem dX6_merge_65 : decode cX6_merge 65 = .ok (.aload_n 0, 1) := by decide +kernel
theorem dX6_merge_66 : decode cX6_merge 66 = .ok (.getfield 66, 3) := by decide +kernel
theorem dX6_merge_69 : decode cX6_merge 69 = .ok (.iload 10, 2) := by decide +kernel
theorem dX6_merge_71 : decode cX6_merge 71 = .ok (.iaload, 1) := by decide +kernel
theorem dX6_merge_72 : decode cX6_merge 72 = .ok (.ifCond .lt 7, 3) := by decide +kernel
theorem dX6_merge_75 : decode cX6_merge 75 = .ok (.iconst 1, 1) := by decide +kernel
theorem dX6_merge_76 : decode cX6_merge 76 = .ok (.goto 4, 3) := by decide +kernel
theorem dX6_merge_79 : decode cX6_merge 79 = .ok (.iconst 0, 1) := by decide +kernel
theorem dX6_merge_80 : decode cX6_merge 80 = .ok (.istore 11, 2) := by decide +kernel
theorem dX6_merge_82 : decode cX6_merge 82 = .ok (.iload 11, 2) := by decide +kernel
theorem dX6_merge_84 : decode cX6_merge 84 = .ok (.ifCond .ne 12, 3) := by decide +kernel
theorem dX6_merge_87 : decode cX6_merge 87 = .ok (.iload 10, 2) := by decide +kernel
theorem dX6_merge_89 : decode cX6_merge 89 = .ok (.lload_n 1, 1) := by decide +kernel
theorem dX6_merge_90 : decode cX6_merge 90 = .ok (.invokestatic 78, 3) := by decide +kernel
theorem dX6_merge_93 : decode cX6_merge 93 = .ok (.if_icmp .ne 196, 3) := by decide +kernel
theorem dX6_merge_96 : decode cX6_merge 96 = .ok (.iload 11, 2) := by decide +kernel
theorem dX6_merge_98 : decode cX6_merge 98 = .ok (.ifCond .eq 13, 3) := by decide +kernel
theorem dX6_merge_101 : decode cX6_merge 101 = .ok (.aload_n 0, 1) := by decide +kernel
theorem dX6_merge_102 : decode cX6_merge 102 = .ok (.getfield 63, 3) := by decide +kernel
theorem dX6_merge_105 : decode cX6_merge 105 = .ok (.iload 10, 2) := by decide +kernel
theorem dX6_merge_107 : decode cX6_merge 107 = .ok (.iaload, 1) := by decide +kernel
theorem dX6_merge_108 : decode cX6_merge 108 = .ok (.goto 7, 3) := by decide +kernel
theorem dX6_merge_111 : decode cX6_merge 111 = .ok (.lload_n 3, 1) := by decide +kernel
theorem dX6_merge_112 : decode cX6_merge 112 = .ok (.invokestatic 78, 3) := by decide +kernel
theorem dX6_merge_115 : decode cX6_merge 115 = .ok (.istore 12, 2) := by decide +kernel
theorem dX6_merge_117 : decode cX6_merge 117 = .ok (.iload 11, 2) := by decide +kernel
theorem dX6_merge_119 : decode cX6_merge 119 = .ok (.ifCond .eq 13, 3) := by decide +kernel
theorem dX6_merge_122 : decode cX6_merge 122 = .ok (.aload_n 0, 1) := by decide +kernel
theorem dX6_merge_123 : decode cX6_merge 123 = .ok (.getfield 66, 3) := by decide +kernel
theorem dX6_merge_126 : decode cX6_merge 126 = .ok (.iload 10, 2) := by decide +kernel
theorem dX6_merge_128 : decode cX6_merge 128 = .ok (.iaload, 1) := by decide +kernel
theorem dX6_merge_129 : decode cX6_merge 129 = .ok (.goto 8, 3) := by decide +kernel
theorem dX6_merge_132 : decode cX6_merge 132 = .ok (.lload 5, 2) := by decide +kernel
theorem dX6_merge_134 : decode cX6_merge 134 = .ok (.invokestatic 78, 3) := by decide +kernel
theorem dX6_merge_137 : decode cX6_merge 137 = .ok (.istore 13, 2) := by decide +kernel
theorem dX6_merge_139 : decode cX6_merge 139 = .ok (.lload_n 3, 1) := by decide +kernel
theorem dX6_merge_140 : decode cX6_merge 140 = .ok (.iload 8, 2) := by decide +kernel
theorem dX6_merge_142 : decode cX6_merge 142 = .ok (.iload 12, 2) := by decide +kernel
theorem dX6_merge_144 : decode cX6_merge 144 = .ok (.lload_n 1, 1) := by decide +kernel
theorem dX6_merge_145 : decode cX6_merge 145 = .ok (.iload 7, 2) := by decide +kernel
theorem dX6_merge_147 : decode cX6_merge 147 = .ok (.iload 10, 2) := by decide +kernel
theorem dX6_merge_149 : decode cX6_merge 149 = .ok (.invokestatic 108, 3) := by decide +kernel
theorem dX6_merge_152 : decode cX6_merge 152 = .ok (.ifCond .eq 16, 3) := by decide +kernel
theorem dX6_merge_155 : decode cX6_merge 155 = .ok (.aload_n 0, 1) := by decide +kernel
theorem dX6_merge_156 : decode cX6_merge 156 = .ok (.lload 5, 2) := by decide +kernel
theorem dX6_merge_158 : decode cX6_merge 158 = .ok (.iload 9, 2) := by decide +kernel
theorem dX6_merge_160 : decode cX6_merge 160 = .ok (.iload 13, 2) := by decide +kernel
theorem dX6_merge_162 : decode cX6_merge 162 = .ok (.invokevirtual 112, 3) := by decide +kernel
theorem dX6_merge_165 : decode cX6_merge 165 = .ok (.goto 91, 3) := by decide +kernel
theorem dX6_merge_168 : decode cX6_merge 168 = .ok (.lload 5, 2) := by decide +kernel
theorem dX6_merge_170 : decode cX6_merge 170 = .ok (.iload 9, 2) := by decide +kernel
theorem dX6_merge_172 : decode cX6_merge 172 = .ok (.iload 13, 2) := by decide +kernel
theorem dX6_merge_174 : decode cX6_merge 174 = .ok (.lload_n 1, 1) := by decide +kernel
theorem dX6_merge_175 : decode cX6_merge 175 = .ok (.iload 7, 2) := by decide +kernel
theorem dX6_merge_177 : decode cX6_merge 177 = .ok (.iload 10, 2) := by decide +kernel
theorem dX6_merge_179 : decode cX6_merge 179 = .ok (.invokestatic 108, 3) := by decide +kernel
theorem dX6_merge_182 : decode cX6_merge 182 = .ok (.ifCond .ne 20, 3) := by decide +kernel
theorem dX6_merge_185 : decode cX6_merge 185 = .ok (.lload 5, 2) := by decide +kernel
theorem dX6_merge_187 : decode cX6_merge 187 = .ok (.iload 9, 2) := by decide +kernel
theorem dX6_merge_189 : decode cX6_merge 189 = .ok (.iload 13, 2) := by decide +kernel
theorem dX6_merge_191 : decode cX6_merge 191 = .ok (.lload_n 3, 1) := by decide +kernel
theorem dX6_merge_192 : decode cX6_merge 192 = .ok (.iload 8, 2) := by decide +kernel
theorem dX6_merge_194 : decode cX6_merge 194 = .ok (.iload 12, 2) := by decide +kernel
theorem dX6_merge_196 : decode cX6_merge 196 = .ok (.invokestatic 108, 3) := by decide +kernel
theorem dX6_merge_199 : decode cX6_merge 199 = .ok (.ifCond .eq 15, 3) := by decide +kernel
theorem dX6_merge_202 : decode cX6_merge 202 = .ok (.aload_n 0, 1) := by decide +kernel
theorem dX6_merge_203 : decode cX6_merge 203 = .ok (.lload_n 3, 1) := by decide +kernel
theorem dX6_merge_204 : decode cX6_merge 204 = .ok (.iload 8, 2) := by decide +kernel
theorem dX6_merge_206 : decode cX6_merge 206 = .ok (.iload 12, 2) := by decide +kernel
theorem dX6_merge_208 : decode cX6_merge 208 = .ok (.invokevirtual 112, 3) := by decide +kernel
theorem dX6_merge_211 : decode cX6_merge 211 = .ok (.goto 45, 3) := by decide +kernel
theorem dX6_merge_214 : decode cX6_merge 214 = .ok (.aload_n 0, 1) := by decide +kernel
theorem dX6_merge_215 : decode cX6_merge 215 = .ok (.iconst 1, 1) := by decide +kernel
theorem dX6_merge_216 : decode cX6_merge 216 = .ok (.putfield 104, 3) := by decide +kernel
theorem dX6_merge_219 : decode cX6_merge 219 = .ok (.aload_n 0, 1) := by decide +kernel
theorem dX6_merge_220 : decode cX6_merge 220 = .ok (.bipush 17, 2) := by decide +kernel
theorem dX6_merge_222 : decode cX6_merge 222 = .ok (.invokevirtual 96, 3) := by decide +kernel
theorem dX6_merge_225 : decode cX6_merge 225 = .ok (.aload_n 0, 1) := by decide +kernel
theorem dX6_merge_226 : decode cX6_merge 226 = .ok (.lload_n 3, 1) := by decide +kernel
theorem dX6_merge_227 : decode cX6_merge 227 = .ok (.iload 8, 2) := by decide +kernel
theorem dX6_merge_229 : decode cX6_merge 229 = .ok (.iload 12, 2) := by decide +kernel
theorem dX6_merge_231 : decode cX6_merge 231 = .ok (.invokevirtual 112, 3) := by decide +kernel
theorem dX6_merge_234 : decode cX6_merge 234 = .ok (.aload_n 0, 1) := by decide +kernel
theorem dX6_merge_235 : decode cX6_merge 235 = .ok (.bipush 18, 2) := by decide +kernel
theorem dX6_merge_237 : decode cX6_merge 237 = .ok (.invokevirtual 96, 3) := by decide +kernel
theorem dX6_merge_240 : decode cX6_merge 240 = .ok (.aload_n 0, 1) := by decide +kernel
theorem dX6_merge_241 : decode cX6_merge 241 = .ok (.lload 5, 2) := by decide +kernel
theorem dX6_merge_243 : decode cX6_merge 243 = .ok (.iload 9, 2) := by decide +kernel
theorem dX6_merge_245 : decode cX6_merge 245 = .ok (.iload 13, 2) := by decide +kernel
theorem dX6_merge_247 : decode cX6_merge 247 = .ok (.invokevirtual 112, 3) := by decide +kernel
theorem dX6_merge_250 : decode cX6_merge 250 = .ok (.aload_n 0, 1) := by decide +kernel
theorem dX6_merge_251 : decode cX6_merge 251 = .ok (.bipush 19, 2) := by decide +kernel
theorem dX6_merge_253 : decode cX6_merge 253 = .ok (.invokevirtual 96, 3) := by decide +kernel
theorem dX6_merge_256 : decode cX6_merge 256 = .ok (.iload 11, 2) := by decide +kernel
theorem dX6_merge_258 : decode cX6_merge 258 = .ok (.ifCond .eq 13, 3) := by decide +kernel
theorem dX6_merge_261 : decode cX6_merge 261 = .ok (.aload_n 0, 1) := by decide +kernel
theorem dX6_merge_262 : decode cX6_merge 262 = .ok (.lload_n 1, 1) := by decide +kernel
theorem dX6_merge_263 : decode cX6_merge 263 = .ok (.iload 10, 2) := by decide +kernel
theorem dX6_merge_265 : decode cX6_merge 265 = .ok (.invokestatic 84, 3) := by decide +kernel
theorem dX6_merge_268 : decode cX6_merge 268 = .ok (.invokevirtual 96, 3) := by decide +kernel
theorem dX6_merge_271 : decode cX6_merge 271 = .ok (.iload 10, 2) := by decide +kernel
theorem dX6_merge_273 : decode cX6_merge 273 = .ok (.iconst 1, 1) := by decide +kernel
theorem dX6_merge_274 : decode cX6_merge 274 = .ok (.iadd, 1) := by decide +kernel
theorem dX6_merge_275 : decode cX6_merge 275 = .ok (.istore 7, 2) := by decide +kernel
theorem dX6_merge_277 : decode cX6_merge 277 = .ok (.iload 12, 2) := by decide +kernel
theorem dX6_merge_279 : decode cX6_merge 279 = .ok (.iconst 1, 1) := by decide +kernel
theorem dX6_merge_280 : decode cX6_merge 280 = .ok (.iadd, 1) := by decide +kernel
theorem dX6_merge_281 : decode cX6_merge 281 = .ok (.istore 8, 2) := by decide +kernel
theorem dX6_merge_283 : decode cX6_merge 283 = .ok (.iload 13, 2) := by decide +kernel
theorem dX6_merge_285 : decode cX6_merge 285 = .ok (.iconst 1, 1) := by decide +kernel
theorem dX6_merge_286 : decode cX6_merge 286 = .ok (.iadd, 1) := by decide +kernel
theorem dX6_merge_287 : decode cX6_merge 287 = .ok (.istore 9, 2) := by decide +kernel
theorem dX6_merge_289 : decode cX6_merge 289 = .ok (.iinc 10 1, 3) := by decide +kernel
theorem dX6_merge_292 : decode cX6_merge 292 = .ok (.goto (-255), 3) := by decide +kernel
theorem dX6_merge_295 : decode cX6_merge 295 = .ok (.return_, 1) := by decide +kernel
theorem dX6_pairUp_0 : decode cX6_pairUp 0 = .ok (.aload_n 0, 1) := by decide +kernel
theorem dX6_pairUp_1 : decode cX6_pairUp 1 = .ok (.lload_n 1, 1) := by decide +kernel
theorem dX6_pairUp_2 : decode cX6_pairUp 2 = .ok (.lload_n 3, 1) := by decide +kernel
theorem dX6_pairUp_3 : decode cX6_pairUp 3 = .ok (.invokevirtual 88, 3) := by decide +kernel
theorem dX6_pairUp_6 : decode cX6_pairUp 6 = .ok (.iconst 0, 1) := by decide +kernel
theorem dX6_pairUp_7 : decode cX6_pairUp 7 = .ok (.istore 6, 2) := by decide +kernel
theorem dX6_pairUp_9 : decode cX6_pairUp 9 = .ok (.iload 6, 2) := by decide +kernel
theorem dX6_pairUp_11 : decode cX6_pairUp 11 = .ok (.bipush 13, 2) := by decide +kernel
theorem dX6_pairUp_13 : decode cX6_pairUp 13 = .ok (.if_icmp .ge 33, 3) := by decide +kernel
theorem dX6_pairUp_16 : decode cX6_pairUp 16 = .ok (.iload 5, 2) := by decide +kernel
theorem dX6_pairUp_18 : decode cX6_pairUp 18 = .ok (.ifCond .eq 14, 3) := by decide +kernel
theorem dX6_pairUp_21 : decode cX6_pairUp 21 = .ok (.aload_n 0, 1) := by decide +kernel
theorem dX6_pairUp_22 : decode cX6_pairUp 22 = .ok (.getfield 63, 3) := by decide +kernel
theorem dX6_pairUp_25 : decode cX6_pairUp 25 = .ok (.iload 6, 2) := by decide +kernel
theorem dX6_pairUp_27 : decode cX6_pairUp 27 = .ok (.iconst (-1), 1) := by decide +kernel
theorem dX6_pairUp_28 : decode cX6_pairUp 28 = .ok (.iastore, 1) := by decide +kernel
theorem dX6_pairUp_29 : decode cX6_pairUp 29 = .ok (.goto 11, 3) := by decide +kernel
theorem dX6_pairUp_32 : decode cX6_pairUp 32 = .ok (.aload_n 0, 1) := by decide +kernel
theorem dX6_pairUp_33 : decode cX6_pairUp 33 = .ok (.getfield 66, 3) := by decide +kernel
theorem dX6_pairUp_36 : decode cX6_pairUp 36 = .ok (.iload 6, 2) := by decide +kernel
theorem dX6_pairUp_38 : decode cX6_pairUp 38 = .ok (.iconst (-1), 1) := by decide +kernel
theorem dX6_pairUp_39 : decode cX6_pairUp 39 = .ok (.iastore, 1) := by decide +kernel
theorem dX6_pairUp_40 : decode cX6_pairUp 40 = .ok (.iinc 6 1, 3) := by decide +kernel
theorem dX6_pairUp_43 : decode cX6_pairUp 43 = .ok (.goto (-34), 3) := by decide +kernel
theorem dX6_pairUp_46 : decode cX6_pairUp 46 = .ok (.iconst 0, 1) := by decide +kernel
theorem dX6_pairUp_47 : decode cX6_pairUp 47 = .ok (.istore 6, 2) := by decide +kernel
theorem dX6_pairUp_49 : decode cX6_pairUp 49 = .ok (.iconst 0, 1) := by decide +kernel
theorem dX6_pairUp_50 : decode cX6_pairUp 50 = .ok (.istore 7, 2) := by decide +kernel
theorem dX6_pairUp_52 : decode cX6_pairUp 52 = .ok (.iload 6, 2) := by decide +kernel
theorem dX6_pairUp_54 : decode cX6_pairUp 54 = .ok (.lload_n 1, 1) := by decide +kernel
theorem dX6_pairUp_55 : decode cX6_pairUp 55 = .ok (.invokestatic 78, 3) := by decide +kernel
theorem dX6_pairUp_58 : decode cX6_pairUp 58 = .ok (.if_icmp .ge 108, 3) := by decide +kernel
theorem dX6_pairUp_61 : decode cX6_pairUp 61 = .ok (.iload 7, 2) := by decide +kernel
theorem dX6_pairUp_63 : decode cX6_pairUp 63 = .ok (.lload_n 3, 1) := by decide +kernel
theorem dX6_pairUp_64 : decode cX6_pairUp 64 = .ok (.invokestatic 78, 3) := by decide +kernel
theorem dX6_pairUp_67 : decode cX6_pairUp 67 = .ok (.if_icmp .ge 99, 3) := by decide +kernel
theorem dX6_pairUp_70 : decode cX6_pairUp 70 = .ok (.lload_n 1, 1) := by decide +kernel
theorem dX6_pairUp_71 : decode cX6_pairUp 71 = .ok (.iload 6, 2) := by decide +kernel
theorem dX6_pairUp_73 : decode cX6_pairUp 73 = .ok (.invokestatic 84, 3) := by decide +kernel
theorem dX6_pairUp_76 : decode cX6_pairUp 76 = .ok (.lload_n 3, 1) := by decide +kernel
theorem dX6_pairUp_77 : decode cX6_pairUp 77 = .ok (.iload 7, 2) := by decide +kernel
theorem dX6_pairUp_79 : decode cX6_pairUp 79 = .ok (.invokestatic 84, 3) := by decide +kernel
theorem dX6_pairUp_82 : decode cX6_pairUp 82 = .ok (.if_icmp .ne 38, 3) := by decide +kernel
theorem dX6_pairUp_85 : decode cX6_pairUp 85 = .ok (.iload 5, 2) := by decide +kernel
theorem dX6_pairUp_87 : decode cX6_pairUp 87 = .ok (.ifCond .eq 15, 3) := by decide +kernel
theorem dX6_pairUp_90 : decode cX6_pairUp 90 = .ok (.aload_n 0, 1) := by decide +kernel
theorem dX6_pairUp_91 : decode cX6_pairUp 91 = .ok (.getfield 63, 3) := by decide +kernel
theorem dX6_pairUp_94 : decode cX6_pairUp 94 = .ok (.iload 6, 2) := by decide +kernel
theorem dX6_pairUp_96 : decode cX6_pairUp 96 = .ok (.iload 7, 2) := by decide +kernel
theorem dX6_pairUp_98 : decode cX6_pairUp 98 = .ok (.iastore, 1) := by decide +kernel
theorem dX6_pairUp_99 : decode cX6_pairUp 99 = .ok (.goto 12, 3) := by decide +kernel
theorem dX6_pairUp_102 : decode cX6_pairUp 102 = .ok (.aload_n 0, 1) := by decide +kernel
theorem dX6_pairUp_103 : decode cX6_pairUp 103 = .ok (.getfield 66, 3) := by decide +kernel
theorem dX6_pairUp_106 : decode cX6_pairUp 106 = .ok (.iload 6, 2) := by decide +kernel
theorem dX6_pairUp_108 : decode cX6_pairUp 108 = .ok (.iload 7, 2) := by decide +kernel
theorem dX6_pairUp_110 : decode cX6_pairUp 110 = .ok (.iastore, 1) := by decide +kernel
theorem dX6_pairUp_111 : decode cX6_pairUp 111 = .ok (.iinc 6 1, 3) := by decide +kernel
theorem dX6_pairUp_114 : decode cX6_pairUp 114 = .ok (.iinc 7 1, 3) := by decide +kernel
theorem dX6_pairUp_117 : decode cX6_pairUp 117 = .ok (.goto (-65), 3) := by decide +kernel
theorem dX6_pairUp_120 : decode cX6_pairUp 120 = .ok (.aload_n 0, 1) := by decide +kernel
theorem dX6_pairUp_121 : decode cX6_pairUp 121 = .ok (.getfield 60, 3) := by decide +kernel
theorem dX6_pairUp_124 : decode cX6_pairUp 124 = .ok (.bipush 13, 2) := by decide +kernel
theorem dX6_pairUp_126 : decode cX6_pairUp 126 = .ok (.iload 6, 2) := by decide +kernel
theorem dX6_pairUp_128 : decode cX6_pairUp 128 = .ok (.imul, 1) := by decide +kernel
theorem dX6_pairUp_129 : decode cX6_pairUp 129 = .ok (.bipush 13, 2) := by decide +kernel
theorem dX6_pairUp_131 : decode cX6_pairUp 131 = .ok (.iadd, 1) := by decide +kernel
theorem dX6_pairUp_132 : decode cX6_pairUp 132 = .ok (.iload 7, 2) := by decide +kernel
theorem dX6_pairUp_134 : decode cX6_pairUp 134 = .ok (.iadd, 1) := by decide +kernel
theorem dX6_pairUp_135 : decode cX6_pairUp 135 = .ok (.iaload, 1) := by decide +kernel
theorem dX6_pairUp_136 : decode cX6_pairUp 136 = .ok (.aload_n 0, 1) := by decide +kernel
theorem dX6_pairUp_137 : decode cX6_pairUp 137 = .ok (.getfield 60, 3) := by decide +kernel
theorem dX6_pairUp_140 : decode cX6_pairUp 140 = .ok (.bipush 13, 2) := by decide +kernel
theorem dX6_pairUp_142 : decode cX6_pairUp 142 = .ok (.iload 6, 2) := by decide +kernel
theorem dX6_pairUp_144 : decode cX6_pairUp 144 = .ok (.imul, 1) := by decide +kernel
theorem dX6_pairUp_145 : decode cX6_pairUp 145 = .ok (.iload 7, 2) := by decide +kernel
theorem dX6_pairUp_147 : decode cX6_pairUp 147 = .ok (.iadd, 1) := by decide +kernel
theorem dX6_pairUp_148 : decode cX6_pairUp 148 = .ok (.iconst 1, 1) := by decide +kernel
theorem dX6_pairUp_149 : decode cX6_pairUp 149 = .ok (.iadd, 1) := by decide +kernel
theorem dX6_pairUp_150 : decode cX6_pairUp 150 = .ok (.iaload, 1) := by decide +kernel
theorem dX6_pairUp_151 : decode cX6_pairUp 151 = .ok (.if_icmp .lt 9, 3) := by decide +kernel
theorem dX6_pairUp_154 : decode cX6_pairUp 154 = .ok (.iinc 6 1, 3) := by decide +kernel
theorem dX6_pairUp_157 : decode cX6_pairUp 157 = .ok (.goto (-105), 3) := by decide +kernel
theorem dX6_pairUp_160 : decode cX6_pairUp 160 = .ok (.iinc 7 1, 3) := by decide +kernel
theorem dX6_pairUp_163 : decode cX6_pairUp 163 = .ok (.goto (-111), 3) := by decide +kernel
theorem dX6_pairUp_166 : decode cX6_pairUp 166 = .ok (.return_, 1) := by decide +kernel
