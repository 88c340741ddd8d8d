/-! what the bytes say -/
theorem dX6_fill_0 : decode cX6_fill 0 = .ok (.iconst 0, 1) := by decide +kernel
theorem dX6_fill_1 : decode cX6_fill 1 = .ok (.istore 5, 2) := by decide +kernel
theorem dX6_fill_3 : decode cX6_fill 3 = .ok (.iload 5, 2) := by decide +kernel
theorem dX6_fill_5 : decode cX6_fill 5 = .ok (.sipush 169, 3) := by decide +kernel
theorem dX6_fill_8 : decode cX6_fill 8 = .ok (.if_icmp .ge 17, 3) := by decide +kernel
theorem dX6_fill_11 : decode cX6_fill 11 = .ok (.aload_n 0, 1) := by decide +kernel
theorem dX6_fill_12 : decode cX6_fill 12 = .ok (.getfield 60, 3) := by decide +kernel
theorem dX6_fill_15 : decode cX6_fill 15 = .ok (.iload 5, 2) := by decide +kernel
theorem dX6_fill_17 : decode cX6_fill 17 = .ok (.iconst 0, 1) := by decide +kernel
theorem dX6_fill_18 : decode cX6_fill 18 = .ok (.iastore, 1) := by decide +kernel
theorem dX6_fill_19 : decode cX6_fill 19 = .ok (.iinc 5 1, 3) := by decide +kernel
theorem dX6_fill_22 : decode cX6_fill 22 = .ok (.goto (-19), 3) := by decide +kernel
theorem dX6_fill_25 : decode cX6_fill 25 = .ok (.lload_n 1, 1) := by decide +kernel
theorem dX6_fill_26 : decode cX6_fill 26 = .ok (.invokestatic 78, 3) := by decide +kernel
theorem dX6_fill_29 : decode cX6_fill 29 = .ok (.iconst 1, 1) := by decide +kernel
theorem dX6_fill_30 : decode cX6_fill 30 = .ok (.isub, 1) := by decide +kernel
theorem dX6_fill_31 : decode cX6_fill 31 = .ok (.istore 5, 2) := by decide +kernel
theorem dX6_fill_33 : decode cX6_fill 33 = .ok (.iload 5, 2) := by decide +kernel
theorem dX6_fill_35 : decode cX6_fill 35 = .ok (.ifCond .lt 132, 3) := by decide +kernel
theorem dX6_fill_38 : decode cX6_fill 38 = .ok (.lload_n 3, 1) := by decide +kernel
theorem dX6_fill_39 : decode cX6_fill 39 = .ok (.invokestatic 78, 3) := by decide +kernel
theorem dX6_fill_42 : decode cX6_fill 42 = .ok (.iconst 1, 1) := by decide +kernel
theorem dX6_fill_43 : decode cX6_fill 43 = .ok (.isub, 1) := by decide +kernel
theorem dX6_fill_44 : decode cX6_fill 44 = .ok (.istore 6, 2) := by decide +kernel
theorem dX6_fill_46 : decode cX6_fill 46 = .ok (.iload 6, 2) := by decide +kernel
theorem dX6_fill_48 : decode cX6_fill 48 = .ok (.ifCond .lt 113, 3) := by decide +kernel
theorem dX6_fill_51 : decode cX6_fill 51 = .ok (.aload_n 0, 1) := by decide +kernel
theorem dX6_fill_52 : decode cX6_fill 52 = .ok (.getfield 60, 3) := by decide +kernel
theorem dX6_fill_55 : decode cX6_fill 55 = .ok (.bipush 13, 2) := by decide +kernel
theorem dX6_fill_57 : decode cX6_fill 57 = .ok (.iload 5, 2) := by decide +kernel
theorem dX6_fill_59 : decode cX6_fill 59 = .ok (.imul, 1) := by decide +kernel
theorem dX6_fill_60 : decode cX6_fill 60 = .ok (.bipush 13, 2) := by decide +kernel
theorem dX6_fill_62 : decode cX6_fill 62 = .ok (.iadd, 1) := by decide +kernel
theorem dX6_fill_63 : decode cX6_fill 63 = .ok (.iload 6, 2) := by decide +kernel
theorem dX6_fill_65 : decode cX6_fill 65 = .ok (.iadd, 1) := by decide +kernel
theorem dX6_fill_66 : decode cX6_fill 66 = .ok (.iaload, 1) := by decide +kernel
theorem dX6_fill_67 : decode cX6_fill 67 = .ok (.istore 7, 2) := by decide +kernel
theorem dX6_fill_69 : decode cX6_fill 69 = .ok (.aload_n 0, 1) := by decide +kernel
theorem dX6_fill_70 : decode cX6_fill 70 = .ok (.getfield 60, 3) := by decide +kernel
theorem dX6_fill_73 : decode cX6_fill 73 = .ok (.bipush 13, 2) := by decide +kernel
theorem dX6_fill_75 : decode cX6_fill 75 = .ok (.iload 5, 2) := by decide +kernel
theorem dX6_fill_77 : decode cX6_fill 77 = .ok (.imul, 1) := by decide +kernel
theorem dX6_fill_78 : decode cX6_fill 78 = .ok (.iload 6, 2) := by decide +kernel
theorem dX6_fill_80 : decode cX6_fill 80 = .ok (.iadd, 1) := by decide +kernel
theorem dX6_fill_81 : decode cX6_fill 81 = .ok (.iconst 1, 1) := by decide +kernel
theorem dX6_fill_82 : decode cX6_fill 82 = .ok (.iadd, 1) := by decide +kernel
theorem dX6_fill_83 : decode cX6_fill 83 = .ok (.iaload, 1) := by decide +kernel
theorem dX6_fill_84 : decode cX6_fill 84 = .ok (.istore 8, 2) := by decide +kernel
theorem dX6_fill_86 : decode cX6_fill 86 = .ok (.iconst 1, 1) := by decide +kernel
theorem dX6_fill_87 : decode cX6_fill 87 = .ok (.aload_n 0, 1) := by decide +kernel
theorem dX6_fill_88 : decode cX6_fill 88 = .ok (.getfield 60, 3) := by decide +kernel
theorem dX6_fill_91 : decode cX6_fill 91 = .ok (.bipush 13, 2) := by decide +kernel
theorem dX6_fill_93 : decode cX6_fill 93 = .ok (.iload 5, 2) := by decide +kernel
theorem dX6_fill_95 : decode cX6_fill 95 = .ok (.imul, 1) := by decide +kernel
theorem dX6_fill_96 : decode cX6_fill 96 = .ok (.bipush 13, 2) := by decide +kernel
theorem dX6_fill_98 : decode cX6_fill 98 = .ok (.iadd, 1) := by decide +kernel
theorem dX6_fill_99 : decode cX6_fill 99 = .ok (.iload 6, 2) := by decide +kernel
theorem dX6_fill_101 : decode cX6_fill 101 = .ok (.iadd, 1) := by decide +kernel
theorem dX6_fill_102 : decode cX6_fill 102 = .ok (.iconst 1, 1) := by decide +kernel
theorem dX6_fill_103 : decode cX6_fill 103 = .ok (.iadd, 1) := by decide +kernel
theorem dX6_fill_104 : decode cX6_fill 104 = .ok (.iaload, 1) := by decide +kernel
theorem dX6_fill_105 : decode cX6_fill 105 = .ok (.iadd, 1) := by decide +kernel
theorem dX6_fill_106 : decode cX6_fill 106 = .ok (.istore 9, 2) := by decide +kernel
theorem dX6_fill_108 : decode cX6_fill 108 = .ok (.aload_n 0, 1) := by decide +kernel
theorem dX6_fill_109 : decode cX6_fill 109 = .ok (.getfield 60, 3) := by decide +kernel
theorem dX6_fill_112 : decode cX6_fill 112 = .ok (.bipush 13, 2) := by decide +kernel
theorem dX6_fill_114 : decode cX6_fill 114 = .ok (.iload 5, 2) := by decide +kernel
theorem dX6_fill_116 : decode cX6_fill 116 = .ok (.imul, 1) := by decide +kernel
theorem dX6_fill_117 : decode cX6_fill 117 = .ok (.iload 6, 2) := by decide +kernel
theorem dX6_fill_119 : decode cX6_fill 119 = .ok (.iadd, 1) := by decide +kernel
theorem dX6_fill_120 : decode cX6_fill 120 = .ok (.lload_n 1, 1) := by decide +kernel
theorem dX6_fill_121 : decode cX6_fill 121 = .ok (.iload 5, 2) := by decide +kernel
theorem dX6_fill_123 : decode cX6_fill 123 = .ok (.invokestatic 84, 3) := by decide +kernel
theorem dX6_fill_126 : decode cX6_fill 126 = .ok (.lload_n 3, 1) := by decide +kernel
theorem dX6_fill_127 : decode cX6_fill 127 = .ok (.iload 6, 2) := by decide +kernel
theorem dX6_fill_129 : decode cX6_fill 129 = .ok (.invokestatic 84, 3) := by decide +kernel
theorem dX6_fill_132 : decode cX6_fill 132 = .ok (.if_icmp .ne 8, 3) := by decide +kernel
theorem dX6_fill_135 : decode cX6_fill 135 = .ok (.iload 9, 2) := by decide +kernel
theorem dX6_fill_137 : decode cX6_fill 137 = .ok (.goto 17, 3) := by decide +kernel
theorem dX6_fill_140 : decode cX6_fill 140 = .ok (.iload 7, 2) := by decide +kernel
theorem dX6_fill_142 : decode cX6_fill 142 = .ok (.iload 8, 2) := by decide +kernel
theorem dX6_fill_144 : decode cX6_fill 144 = .ok (.if_icmp .le 8, 3) := by decide +kernel
theorem dX6_fill_147 : decode cX6_fill 147 = .ok (.iload 7, 2) := by decide +kernel
theorem dX6_fill_149 : decode cX6_fill 149 = .ok (.goto 5, 3) := by decide +kernel
theorem dX6_fill_152 : decode cX6_fill 152 = .ok (.iload 8, 2) := by decide +kernel
theorem dX6_fill_154 : decode cX6_fill 154 = .ok (.iastore, 1) := by decide +kernel
theorem dX6_fill_155 : decode cX6_fill 155 = .ok (.iinc 6 (-1), 3) := by decide +kernel
theorem dX6_fill_158 : decode cX6_fill 158 = .ok (.goto (-112), 3) := by decide +kernel
theorem dX6_fill_161 : decode cX6_fill 161 = .ok (.iinc 5 (-1), 3) := by decide +kernel
theorem dX6_fill_164 : decode cX6_fill 164 = .ok (.goto (-131), 3) := by decide +kernel
theorem dX6_fill_167 : decode cX6_fill 167 = .ok (.return_, 1) := by decide +kernel
theorem dX6_alike_0 : decode cX6_alike 0 = .ok (.iload_n 3, 1) := by decide +kernel
theorem dX6_alike_1 : decode cX6_alike 1 = .ok (.iload_n 2, 1) := by decide +kernel
theorem dX6_alike_2 : decode cX6_alike 2 = .ok (.isub, 1) := by decide +kernel
theorem dX6_alike_3 : decode cX6_alike 3 = .ok (.iload 7, 2) := by decide +kernel
theorem dX6_alike_5 : decode cX6_alike 5 = .ok (.iload 6, 2) := by decide +kernel
theorem dX6_alike_7 : decode cX6_alike 7 = .ok (.isub, 1) := by decide +kernel
theorem dX6_alike_8 : decode cX6_alike 8 = .ok (.if_icmp .ne 7, 3) := by decide +kernel
theorem dX6_alike_11 : decode cX6_alike 11 = .ok (.iconst 1, 1) := by decide +kernel
theorem dX6_alike_12 : decode cX6_alike 12 = .ok (.goto 4, 3) := by decide +kernel
theorem dX6_alike_15 : decode cX6_alike 15 = .ok (.iconst 0, 1) := by decide +kernel
theorem dX6_alike_16 : decode cX6_alike 16 = .ok (.istore 8, 2) := by decide +kernel
theorem dX6_alike_18 : decode cX6_alike 18 = .ok (.iconst 0, 1) := by decide +kernel
theorem dX6_alike_19 : decode cX6_alike 19 = .ok (.istore 9, 2) := by decide +kernel
theorem dX6_alike_21 : decode cX6_alike 21 = .ok (.iload 9, 2) := by decide +kernel
theorem dX6_alike_23 : decode cX6_alike 23 = .ok (.iload_n 3, 1) := by decide +kernel
theorem dX6_alike_24 : decode cX6_alike 24 = .ok (.iload_n 2, 1) := by decide +kernel
theorem dX6_alike_25 : decode cX6_alike 25 = .ok (.isub, 1) := by decide +kernel
theorem dX6_alike_26 : decode cX6_alike 26 = .ok (.if_icmp .ge 42, 3) := by decide +kernel
theorem dX6_alike_29 : decode cX6_alike 29 = .ok (.iload 8, 2) := by decide +kernel
theorem dX6_alike_31 : decode cX6_alike 31 = .ok (.ifCond .eq 37, 3) := by decide +kernel
theorem dX6_alike_34 : decode cX6_alike 34 = .ok (.lload_n 0, 1) := by decide +kernel
theorem dX6_alike_35 : decode cX6_alike 35 = .ok (.iload_n 2, 1) := by decide +kernel
theorem dX6_alike_36 : decode cX6_alike 36 = .ok (.iload 9, 2) := by decide +kernel
theorem dX6_alike_38 : decode cX6_alike 38 = .ok (.iadd, 1) := by decide +kernel
theorem dX6_alike_39 : decode cX6_alike 39 = .ok (.invokestatic 84, 3) := by decide +kernel
theorem dX6_alike_42 : decode cX6_alike 42 = .ok (.lload 4, 2) := by decide +kernel
theorem dX6_alike_44 : decode cX6_alike 44 = .ok (.iload 6, 2) := by decide +kernel
theorem dX6_alike_46 : decode cX6_alike 46 = .ok (.iload 9, 2) := by decide +kernel
theorem dX6_alike_48 : decode cX6_alike 48 = .ok (.iadd, 1) := by decide +kernel
theorem dX6_alike_49 : decode cX6_alike 49 = .ok (.invokestatic 84, 3) := by decide +kernel
theorem dX6_alike_52 : decode cX6_alike 52 = .ok (.if_icmp .ne 7, 3) := by decide +kernel
theorem dX6_alike_55 : decode cX6_alike 55 = .ok (.iconst 1, 1) := by decide +kernel
theorem dX6_alike_56 : decode cX6_alike 56 = .ok (.goto 4, 3) := by decide +kernel
theorem dX6_alike_59 : decode cX6_alike 59 = .ok (.iconst 0, 1) := by decide +kernel
theorem dX6_alike_60 : decode cX6_alike 60 = .ok (.istore 8, 2) := by decide +kernel
theorem dX6_alike_62 : decode cX6_alike 62 = .ok (.iinc 9 1, 3) := by decide +kernel
theorem dX6_alike_65 : decode cX6_alike 65 = .ok (.goto (-44), 3) := by decide +kernel
theorem dX6_alike_68 : decode cX6_alike 68 = .ok (.iload 8, 2) := by decide +kernel
theorem dX6_alike_70 : decode cX6_alike 70 = .ok (.ireturn, 1) := by decide +kernel
theorem dX6_putAll_0 : decode cX6_putAll 0 = .ok (.iload_n 3, 1) := by decide +kernel
theorem dX6_putAll_1 : decode cX6_putAll 1 = .ok (.istore 5, 2) := by decide +kernel
theorem dX6_putAll_3 : decode cX6_putAll 3 = .ok (.iload 5, 2) := by decide +kernel
theorem dX6_putAll_5 : decode cX6_putAll 5 = .ok (.iload 4, 2) := by decide +kernel
theorem dX6_putAll_7 : decode cX6_putAll 7 = .ok (.if_icmp .ge 19, 3) := by decide +kernel
theorem dX6_putAll_10 : decode cX6_putAll 10 = .ok (.aload_n 0, 1) := by decide +kernel
theorem dX6_putAll_11 : decode cX6_putAll 11 = .ok (.lload_n 1, 1) := by decide +kernel
theorem dX6_putAll_12 : decode cX6_putAll 12 = .ok (.iload 5, 2) := by decide +kernel
theorem dX6_putAll_14 : decode cX6_putAll 14 = .ok (.invokestatic 84, 3) := by decide +kernel
theorem dX6_putAll_17 : decode cX6_putAll 17 = .ok (.invokevirtual 96, 3) := by decide +kernel
theorem dX6_putAll_20 : decode cX6_putAll 20 = .ok (.iinc 5 1, 3) := by decide +kernel
theorem dX6_putAll_23 : decode cX6_putAll 23 = .ok (.goto (-20), 3) := by decide +kernel
theorem dX6_putAll_26 : decode cX6_putAll 26 = .ok (.return_, 1) := by decide +kernel
theorem dX6_put_0 : decode cX6_put 0 = .ok (.aload_n 0, 1) := by decide +kernel
theorem dX6_put_1 : decode cX6_put 1 = .ok (.getfield 92, 3) := by decide +kernel
theorem dX6_put_4 : decode cX6_put 4 = .ok (.bipush 64, 2) := by decide +kernel
theorem dX6_put_6 : decode cX6_put 6 = .ok (.if_icmp .ge 13, 3) := by decide +kernel
theorem dX6_put_9 : decode cX6_put 9 = .ok (.aload_n 0, 1) := by decide +kernel
theorem dX6_put_10 : decode cX6_put 10 = .ok (.getfield 69, 3) := by decide +kernel
theorem dX6_put_13 : decode cX6_put 13 = .ok (.aload_n 0, 1) := by decide +kernel
theorem dX6_put_14 : decode cX6_put 14 = .ok (.getfield 92, 3) := by decide +kernel
theorem dX6_put_17 : decode cX6_put 17 = .ok (.iload_n 1, 1) := by decide +kernel
theorem dX6_put_18 : decode cX6_put 18 = .ok (.iastore, 1) := by decide +kernel
theorem dX6_put_19 : decode cX6_put 19 = .ok (.aload_n 0, 1) := by decide +kernel
theorem dX6_put_20 : decode cX6_put 20 = .ok (.dup, 1) := by decide +kernel
theorem dX6_put_21 : decode cX6_put 21 = .ok (.getfield 92, 3) := by decide +kernel
theorem dX6_put_24 : decode cX6_put 24 = .ok (.iconst 1, 1) := by decide +kernel
theorem dX6_put_25 : decode cX6_put 25 = .ok (.iadd, 1) := by decide +kernel
theorem dX6_put_26 : decode cX6_put 26 = .ok (.putfield 92, 3) := by decide +kernel
theorem dX6_put_29 : decode cX6_put 29 = .ok (.return_, 1) := by decide +kernel
theorem dX6_mergedText_0 : decode cX6_mergedText 0 = .ok (.lconst 0, 1) := by decide +kernel
theorem dX6_mergedText_1 : decode cX6_mergedText 1 = .ok (.lstore_n 1, 1) := by decide +kernel
theorem dX6_mergedText_2 : decode cX6_mergedText 2 = .ok (.iconst 0, 1) := by decide +kernel
theorem dX6_mergedText_3 : decode cX6_mergedText 3 = .ok (.istore_n 3, 1) := by decide +kernel
theorem dX6_mergedText_4 : decode cX6_mergedText 4 = .ok (.iload_n 3, 1) := by decide +kernel
theorem dX6_mergedText_5 : decode cX6_mergedText 5 = .ok (.aload_n 0, 1) := by decide +kernel
theorem dX6_mergedText_6 : decode cX6_mergedText 6 = .ok (.getfield 92, 3) := by decide +kernel
theorem dX6_mergedText_9 : decode cX6_mergedText 9 = .ok (.if_icmp .ge 23, 3) := by decide +kernel
theorem dX6_mergedText_12 : decode cX6_mergedText 12 = .ok (.ldc2_w 76, 3) := by decide +kernel
theorem dX6_mergedText_15 : decode cX6_mergedText 15 = .ok (.lload_n 1, 1) := by decide +kernel
theorem dX6_mergedText_16 : decode cX6_mergedText 16 = .ok (.lmul, 1) := by decide +kernel
theorem dX6_mergedText_17 : decode cX6_mergedText 17 = .ok (.aload_n 0, 1) := by decide +kernel
theorem dX6_mergedText_18 : decode cX6_mergedText 18 = .ok (.getfield 69, 3) := by decide +kernel
theorem dX6_mergedText_21 : decode cX6_mergedText 21 = .ok (.iload_n 3, 1) := by decide +kernel
theorem dX6_mergedText_22 : decode cX6_mergedText 22 = .ok (.iaload, 1) := by decide +kernel
theorem dX6_mergedText_23 : decode cX6_mergedText 23 = .ok (.i2l, 1) := by decide +kernel
theorem dX6_mergedText_24 : decode cX6_mergedText 24 = .ok (.ladd, 1) := by decide +kernel
theorem dX6_mergedText_25 : decode cX6_mergedText 25 = .ok (.lstore_n 1, 1) := by decide +kernel
theorem dX6_mergedText_26 : decode cX6_mergedText 26 = .ok (.iinc 3 1, 3) := by decide +kernel
theorem dX6_mergedText_29 : decode cX6_mergedText 29 = .ok (.goto (-25), 3) := by decide +kernel
theorem dX6_mergedText_32 : decode cX6_mergedText 32 = .ok (.lload_n 1, 1) := by decide +kernel
theorem dX6_mergedText_33 : decode cX6_mergedText 33 = .ok (.lreturn, 1) := by decide +kernel
theorem dX6_tag_0 : decode cX6_tag 0 = .ok (.iload_n 1, 1) := by decide +kernel
theorem dX6_tag_1 : decode cX6_tag 1 = .ok (.iload_n 2, 1) := by decide +kernel
theorem dX6_tag_2 : decode cX6_tag 2 = .ok (.invokestatic 120, 3) := by decide +kernel
theorem dX6_tag_5 : decode cX6_tag 5 = .ok (.ifCond .ne 24, 3) := by decide +kernel
theorem dX6_tag_8 : decode cX6_tag 8 = .ok (.iload_n 3, 1) := by decide +kernel
theorem dX6_tag_9 : decode cX6_tag 9 = .ok (.iconst 5, 1) := by decide +kernel
theorem dX6_tag_10 : decode cX6_tag 10 = .ok (.invokestatic 72, 3) := by decide +kernel
theorem dX6_tag_13 : decode cX6_tag 13 = .ok (.ifCond .eq 16, 3) := by decide +kernel
theorem dX6_tag_16 : decode cX6_tag 16 = .ok (.aload_n 0, 1) := by decide +kernel
theorem dX6_tag_17 : decode cX6_tag 17 = .ok (.getfield 48, 3) := by decide +kernel
theorem dX6_tag_20 : decode cX6_tag 20 = .ok (.iconst 4, 1) := by decide +kernel
theorem dX6_tag_21 : decode cX6_tag 21 = .ok (.iload_n 1, 1) := by decide +kernel
theorem dX6_tag_22 : decode cX6_tag 22 = .ok (.imul, 1) := by decide +kernel
theorem dX6_tag_23 : decode cX6_tag 23 = .ok (.iload_n 2, 1) := by decide +kernel
theorem dX6_tag_24 : decode cX6_tag 24 = .ok (.iadd, 1) := by decide +kernel
theorem dX6_tag_25 : decode cX6_tag 25 = .ok (.iaload, 1) := by decide +kernel
theorem dX6_tag_26 : decode cX6_tag 26 = .ok (.ifCond .ge 5, 3) := by decide +kernel
theorem dX6_tag_29 : decode cX6_tag 29 = .ok (.iconst 0, 1) := by decide +kernel
theorem dX6_tag_30 : decode cX6_tag 30 = .ok (.ireturn, 1) := by decide +kernel
theorem dX6_tag_31 : decode cX6_tag 31 = .ok (.iload 4, 2) := by decide +kernel
theorem dX6_tag_33 : decode cX6_tag 33 = .ok (.ifCond .eq 7, 3) := by decide +kernel
theorem dX6_tag_36 : decode cX6_tag 36 = .ok (.iconst 2, 1) := by decide +kernel
theorem dX6_tag_37 : decode cX6_tag 37 = .ok (.goto 4, 3) := by decide +kernel
theorem dX6_tag_40 : decode cX6_tag 40 = .ok (.iconst 1, 1) := by decide +kernel
theorem dX6_tag_41 : decode cX6_tag 41 = .ok (.istore 5, 2) := by decide +kernel
theorem dX6_tag_43 : decode cX6_tag 43 = .ok (.aload_n 0, 1) := by decide +kernel
theorem dX6_tag_44 : decode cX6_tag 44 = .ok (.getfield 45, 3) := by decide +kernel
theorem dX6_tag_47 : decode cX6_tag 47 = .ok (.iconst 5, 1) := by decide +kernel
theorem dX6_tag_48 : decode cX6_tag 48 = .ok (.iload_n 2, 1) := by decide +kernel
theorem dX6_tag_49 : decode cX6_tag 49 = .ok (.imul, 1) := by decide +kernel
theorem dX6_tag_50 : decode cX6_tag 50 = .ok (.iload_n 3, 1) := by decide +kernel
theorem dX6_tag_51 : decode cX6_tag 51 = .ok (.iadd, 1) := by decide +kernel
theorem dX6_tag_52 : decode cX6_tag 52 = .ok (.iaload, 1) := by decide +kernel
theorem dX6_tag_53 : decode cX6_tag 53 = .ok (.iconst (-1), 1) := by decide +kernel
theorem dX6_tag_54 : decode cX6_tag 54 = .ok (.if_icmp .eq 7, 3) := by decide +kernel
theorem dX6_tag_57 : decode cX6_tag 57 = .ok (.iconst 1, 1) := by decide +kernel
theorem dX6_tag_58 : decode cX6_tag 58 = .ok (.goto 4, 3) := by decide +kernel
theorem dX6_tag_61 : decode cX6_tag 61 = .ok (.iconst 0, 1) := by decide +kernel
theorem dX6_tag_62 : decode cX6_tag 62 = .ok (.istore 6, 2) := by decide +kernel
theorem dX6_tag_64 : decode cX6_tag 64 = .ok (.aload_n 0, 1) := by decide +kernel
theorem dX6_tag_65 : decode cX6_tag 65 = .ok (.getfield 42, 3) := by decide +kernel
theorem dX6_tag_68 : decode cX6_tag 68 = .ok (.iload_n 3, 1) := by decide +kernel
theorem dX6_tag_69 : decode cX6_tag 69 = .ok (.iaload, 1) := by decide +kernel
theorem dX6_tag_70 : decode cX6_tag 70 = .ok (.ifCond .eq 14, 3) := by decide +kernel
theorem dX6_tag_73 : decode cX6_tag 73 = .ok (.aload_n 0, 1) := by decide +kernel
theorem dX6_tag_74 : decode cX6_tag 74 = .ok (.getfield 42, 3) := by decide +kernel
theorem dX6_tag_77 : decode cX6_tag 77 = .ok (.iload_n 3, 1) := by decide +kernel
theorem dX6_tag_78 : decode cX6_tag 78 = .ok (.iaload, 1) := by decide +kernel
theorem dX6_tag_79 : decode cX6_tag 79 = .ok (.iload 5, 2) := by decide +kernel
theorem dX6_tag_81 : decode cX6_tag 81 = .ok (.if_icmp .ne 23, 3) := by decide +kernel
theorem dX6_tag_84 : decode cX6_tag 84 = .ok (.iload 4, 2) := by decide +kernel
theorem dX6_tag_86 : decode cX6_tag 86 = .ok (.ifCond .eq 20, 3) := by decide +kernel
theorem dX6_tag_89 : decode cX6_tag 89 = .ok (.iload 6, 2) := by decide +kernel
theorem dX6_tag_91 : decode cX6_tag 91 = .ok (.ifCond .ne 13, 3) := by decide +kernel
theorem dX6_tag_94 : decode cX6_tag 94 = .ok (.aload_n 0, 1) := by decide +kernel
theorem dX6_tag_95 : decode cX6_tag 95 = .ok (.getfield 27, 3) := by decide +kernel
theorem dX6_tag_98 : decode cX6_tag 98 = .ok (.iload_n 2, 1) := by decide +kernel
theorem dX6_tag_99 : decode cX6_tag 99 = .ok (.iaload, 1) := by decide +kernel
theorem dX6_tag_100 : decode cX6_tag 100 = .ok (.iconst 5, 1) := by decide +kernel
theorem dX6_tag_101 : decode cX6_tag 101 = .ok (.if_icmp .ne 5, 3) := by decide +kernel
theorem dX6_tag_104 : decode cX6_tag 104 = .ok (.iconst 0, 1) := by decide +kernel
theorem dX6_tag_105 : decode cX6_tag 105 = .ok (.ireturn, 1) := by decide +kernel
theorem dX6_tag_106 : decode cX6_tag 106 = .ok (.aload_n 0, 1) := by decide +kernel
theorem dX6_tag_107 : decode cX6_tag 107 = .ok (.getfield 48, 3) := by decide +kernel
theorem dX6_tag_110 : decode cX6_tag 110 = .ok (.iconst 4, 1) := by decide +kernel
theorem dX6_tag_111 : decode cX6_tag 111 = .ok (.iload_n 1, 1) := by decide +kernel
theorem dX6_tag_112 : decode cX6_tag 112 = .ok (.imul, 1) := by decide +kernel
theorem dX6_tag_113 : decode cX6_tag 113 = .ok (.iload_n 2, 1) := by decide +kernel
theorem dX6_tag_114 : decode cX6_tag 114 = .ok (.iadd, 1) := by decide +kernel
theorem dX6_tag_115 : decode cX6_tag 115 = .ok (.iaload, 1) := by decide +kernel
theorem dX6_tag_116 : decode cX6_tag 116 = .ok (.istore 7, 2) := by decide +kernel
theorem dX6_tag_118 : decode cX6_tag 118 = .ok (.aload_n 0, 1) := by decide +kernel
theorem dX6_tag_119 : decode cX6_tag 119 = .ok (.getfield 42, 3) := by decide +kernel
theorem dX6_tag_122 : decode cX6_tag 122 = .ok (.iload_n 3, 1) := by decide +kernel
theorem dX6_tag_123 : decode cX6_tag 123 = .ok (.iload 5, 2) := by decide +kernel
theorem dX6_tag_125 : decode cX6_tag 125 = .ok (.iastore, 1) := by decide +kernel
theorem dX6_tag_126 : decode cX6_tag 126 = .ok (.aload_n 0, 1) := by decide +kernel
theorem dX6_tag_127 : decode cX6_tag 127 = .ok (.getfield 45, 3) := by decide +kernel
theorem dX6_tag_130 : decode cX6_tag 130 = .ok (.iconst 5, 1) := by decide +kernel
theorem dX6_tag_131 : decode cX6_tag 131 = .ok (.iload_n 2, 1) := by decide +kernel
theorem dX6_tag_132 : decode cX6_tag 132 = .ok (.imul, 1) := by decide +kernel
theorem dX6_tag_133 : decode cX6_tag 133 = .ok (.iload_n 3, 1) := by decide +kernel
theorem dX6_tag_134 : decode cX6_tag 134 = .ok (.iadd, 1) := by decide +kernel
theorem dX6_tag_135 : decode cX6_tag 135 = .ok (.iload 4, 2) := by decide +kernel
theorem dX6_tag_137 : decode cX6_tag 137 = .ok (.ifCond .eq 20, 3) := by decide +kernel
theorem dX6_tag_140 : decode cX6_tag 140 = .ok (.aload_n 0, 1) := by decide +kernel
theorem dX6_tag_141 : decode cX6_tag 141 = .ok (.iload_n 2, 1) := by decide +kernel
theorem dX6_tag_142 : decode cX6_tag 142 = .ok (.iload 7, 2) := by decide +kernel
theorem dX6_tag_144 : decode cX6_tag 144 = .ok (.aload_n 0, 1) := by decide +kernel
theorem dX6_tag_145 : decode cX6_tag 145 = .ok (.iload_n 2, 1) := by decide +kernel
theorem dX6_tag_146 : decode cX6_tag 146 = .ok (.iload 7, 2) := by decide +kernel
theorem dX6_tag_148 : decode cX6_tag 148 = .ok (.invokevirtual 150, 3) := by decide +kernel
theorem dX6_tag_151 : decode cX6_tag 151 = .ok (.invokevirtual 153, 3) := by decide +kernel
theorem dX6_tag_154 : decode cX6_tag 154 = .ok (.goto 5, 3) := by decide +kernel
theorem dX6_tag_157 : decode cX6_tag 157 = .ok (.iload 7, 2) := by decide +kernel
theorem dX6_tag_159 : decode cX6_tag 159 = .ok (.iastore, 1) := by decide +kernel
theorem dX6_tag_160 : decode cX6_tag 160 = .ok (.iconst 1, 1) := by decide +kernel
theorem dX6_tag_161 : decode cX6_tag 161 = .ok (.ireturn, 1) := by decide +kernel
theorem dX6_bring_0 : decode cX6_bring 0 = .ok (.iload_n 1, 1) := by decide +kernel
theorem dX6_bring_1 : decode cX6_bring 1 = .ok (.iconst 4, 1) := by decide +kernel
theorem dX6_bring_2 : decode cX6_bring 2 = .ok (.invokestatic 72, 3) := by decide +kernel
theorem dX6_bring_5 : decode cX6_bring 5 = .ok (.ifCond .eq 17, 3) := by decide +kernel
theorem dX6_bring_8 : decode cX6_bring 8 = .ok (.lload_n 2, 1) := by decide +kernel
theorem dX6_bring_9 : decode cX6_bring 9 = .ok (.invokestatic 123, 3) := by decide +kernel
theorem dX6_bring_12 : decode cX6_bring 12 = .ok (.ifCond .ne 10, 3) := by decide +kernel
theorem dX6_bring_15 : decode cX6_bring 15 = .ok (.lload_n 2, 1) := by decide +kernel
theorem dX6_bring_16 : decode cX6_bring 16 = .ok (.invokestatic 127, 3) := by decide +kernel
theorem dX6_bring_19 : decode cX6_bring 19 = .ok (.ifCond .eq 5, 3) := by decide +kernel
theorem dX6_bring_22 : decode cX6_bring 22 = .ok (.iconst (-1), 1) := by decide +kernel
theorem dX6_bring_23 : decode cX6_bring 23 = .ok (.ireturn, 1) := by decide +kernel
theorem dX6_bring_24 : decode cX6_bring 24 = .ok (.aload_n 0, 1) := by decide +kernel
theorem dX6_bring_25 : decode cX6_bring 25 = .ok (.getfield 7, 3) := by decide +kernel
theorem dX6_bring_28 : decode cX6_bring 28 = .ok (.iload_n 1, 1) := by decide +kernel
theorem dX6_bring_29 : decode cX6_bring 29 = .ok (.iaload, 1) := by decide +kernel
theorem dX6_bring_30 : decode cX6_bring 30 = .ok (.ifCond .ne 7, 3) := by decide +kernel
theorem dX6_bring_33 : decode cX6_bring 33 = .ok (.iconst 1, 1) := by decide +kernel
theorem dX6_bring_34 : decode cX6_bring 34 = .ok (.goto 4, 3) := by decide +kernel
theorem dX6_bring_37 : decode cX6_bring 37 = .ok (.iconst 0, 1) := by decide +kernel
theorem dX6_bring_38 : decode cX6_bring 38 = .ok (.istore 4, 2) := by decide +kernel
theorem dX6_bring_40 : decode cX6_bring 40 = .ok (.aload_n 0, 1) := by decide +kernel
theorem dX6_bring_41 : decode cX6_bring 41 = .ok (.getfield 7, 3) := by decide +kernel
theorem dX6_bring_44 : decode cX6_bring 44 = .ok (.iload_n 1, 1) := by decide +kernel
theorem dX6_bring_45 : decode cX6_bring 45 = .ok (.iaload, 1) := by decide +kernel
theorem dX6_bring_46 : decode cX6_bring 46 = .ok (.iconst 1, 1) := by decide +kernel
theorem dX6_bring_47 : decode cX6_bring 47 = .ok (.iadd, 1) := by decide +kernel
theorem dX6_bring_48 : decode cX6_bring 48 = .ok (.bipush 24, 2) := by decide +kernel
theorem dX6_bring_50 : decode cX6_bring 50 = .ok (.if_icmp .gt 22, 3) := by decide +kernel
theorem dX6_bring_53 : decode cX6_bring 53 = .ok (.aload_n 0, 1) := by decide +kernel
theorem dX6_bring_54 : decode cX6_bring 54 = .ok (.getfield 36, 3) := by decide +kernel
theorem dX6_bring_57 : decode cX6_bring 57 = .ok (.iload_n 1, 1) := by decide +kernel
theorem dX6_bring_58 : decode cX6_bring 58 = .ok (.iaload, 1) := by decide +kernel
theorem dX6_bring_59 : decode cX6_bring 59 = .ok (.ifCond .ge 16, 3) := by decide +kernel
theorem dX6_bring_62 : decode cX6_bring 62 = .ok (.aload_n 0, 1) := by decide +kernel
theorem dX6_bring_63 : decode cX6_bring 63 = .ok (.getfield 27, 3) := by decide +kernel
theorem dX6_bring_66 : decode cX6_bring 66 = .ok (.iload_n 1, 1) := by decide +kernel
theorem dX6_bring_67 : decode cX6_bring 67 = .ok (.iaload, 1) := by decide +kernel
theorem dX6_bring_68 : decode cX6_bring 68 = .ok (.iconst 5, 1) := by decide +kernel
theorem dX6_bring_69 : decode cX6_bring 69 = .ok (.if_icmp .ne 6, 3) := by decide +kernel
theorem dX6_bring_72 : decode cX6_bring 72 = .ok (.bipush (-7), 2) := by decide +kernel
theorem dX6_bring_74 : decode cX6_bring 74 = .ok (.ireturn, 1) := by decide +kernel
theorem dX6_bring_75 : decode cX6_bring 75 = .ok (.iload 4, 2) := by decide +kernel
theorem dX6_bring_77 : decode cX6_bring 77 = .ok (.ifCond .eq 12, 3) := by decide +kernel
theorem dX6_bring_80 : decode cX6_bring 80 = .ok (.aload_n 0, 1) := by decide +kernel
theorem dX6_bring_81 : decode cX6_bring 81 = .ok (.iload_n 1, 1) := by decide +kernel
theorem dX6_bring_82 : decode cX6_bring 82 = .ok (.iconst 0, 1) := by decide +kernel
theorem dX6_bring_83 : decode cX6_bring 83 = .ok (.lload_n 2, 1) := by decide +kernel
theorem dX6_bring_84 : decode cX6_bring 84 = .ok (.iconst 0, 1) := by decide +kernel
theorem dX6_bring_85 : decode cX6_bring 85 = .ok (.invokevirtual 146, 3) := by decide +kernel
theorem dX6_bring_88 : decode cX6_bring 88 = .ok (.pop, 1) := by decide +kernel
theorem dX6_bring_89 : decode cX6_bring 89 = .ok (.aload_n 0, 1) := by decide +kernel
theorem dX6_bring_90 : decode cX6_bring 90 = .ok (.getfield 36, 3) := by decide +kernel
theorem dX6_bring_93 : decode cX6_bring 93 = .ok (.iload_n 1, 1) := by decide +kernel
theorem dX6_bring_94 : decode cX6_bring 94 = .ok (.iaload, 1) := by decide +kernel
theorem dX6_bring_95 : decode cX6_bring 95 = .ok (.ifCond .ge 20, 3) := by decide +kernel
theorem dX6_bring_98 : decode cX6_bring 98 = .ok (.aload_n 0, 1) := by decide +kernel
theorem dX6_bring_99 : decode cX6_bring 99 = .ok (.getfield 36, 3) := by decide +kernel
theorem dX6_bring_102 : decode cX6_bring 102 = .ok (.iload_n 1, 1) := by decide +kernel
theorem dX6_bring_103 : decode cX6_bring 103 = .ok (.aload_n 0, 1) := by decide +kernel
theorem dX6_bring_104 : decode cX6_bring 104 = .ok (.iload_n 1, 1) := by decide +kernel
theorem dX6_bring_105 : decode cX6_bring 105 = .ok (.aload_n 0, 1) := by decide +kernel
theorem dX6_bring_106 : decode cX6_bring 106 = .ok (.iload_n 1, 1) := by decide +kernel
theorem dX6_bring_107 : decode cX6_bring 107 = .ok (.invokevirtual 172, 3) := by decide +kernel
theorem dX6_bring_110 : decode cX6_bring 110 = .ok (.iconst 1, 1) := by decide +kernel
theorem dX6_bring_111 : decode cX6_bring 111 = .ok (.invokevirtual 153, 3) := by decide +kernel
theorem dX6_bring_114 : decode cX6_bring 114 = .ok (.iastore, 1) := by decide +kernel
theorem dX6_bring_115 : decode cX6_bring 115 = .ok (.iload 4, 2) := by decide +kernel
theorem dX6_bring_117 : decode cX6_bring 117 = .ok (.ifCond .eq 15, 3) := by decide +kernel
theorem dX6_bring_120 : decode cX6_bring 120 = .ok (.aload_n 0, 1) := by decide +kernel
theorem dX6_bring_121 : decode cX6_bring 121 = .ok (.getfield 39, 3) := by decide +kernel
theorem dX6_bring_124 : decode cX6_bring 124 = .ok (.iload_n 1, 1) := by decide +kernel
theorem dX6_bring_125 : decode cX6_bring 125 = .ok (.aload_n 0, 1) := by decide +kernel
theorem dX6_bring_126 : decode cX6_bring 126 = .ok (.getfield 36, 3) := by decide +kernel
theorem dX6_bring_129 : decode cX6_bring 129 = .ok (.iload_n 1, 1) := by decide +kernel
theorem dX6_bring_130 : decode cX6_bring 130 = .ok (.iaload, 1) := by decide +kernel
theorem dX6_bring_131 : decode cX6_bring 131 = .ok (.iastore, 1) := by decide +kernel
theorem dX6_bring_132 : decode cX6_bring 132 = .ok (.aload_n 0, 1) := by decide +kernel
theorem dX6_bring_133 : decode cX6_bring 133 = .ok (.iload_n 1, 1) := by decide +kernel
theorem dX6_bring_134 : decode cX6_bring 134 = .ok (.aload_n 0, 1) := by decide +kernel
theorem dX6_bring_135 : decode cX6_bring 135 = .ok (.getfield 36, 3) := by decide +kernel
theorem dX6_bring_138 : decode cX6_bring 138 = .ok (.iload_n 1, 1) := by decide +kernel
theorem dX6_bring_139 : decode cX6_bring 139 = .ok (.iaload, 1) := by decide +kernel
theorem dX6_bring_140 : decode cX6_bring 140 = .ok (.lload_n 2, 1) := by decide +kernel
theorem dX6_bring_141 : decode cX6_bring 141 = .ok (.iconst 0, 1) := by decide +kernel
theorem dX6_bring_142 : decode cX6_bring 142 = .ok (.invokevirtual 146, 3) := by decide +kernel
theorem dX6_bring_145 : decode cX6_bring 145 = .ok (.ireturn, 1) := by decide +kernel
theorem dX6_firstOfTrunk_0 : decode cX6_firstOfTrunk 0 = .ok (.iconst 0, 1) := by decide +kernel
theorem dX6_firstOfTrunk_1 : decode cX6_firstOfTrunk 1 = .ok (.istore_n 2, 1) := by decide +kernel
theorem dX6_firstOfTrunk_2 : decode cX6_firstOfTrunk 2 = .ok (.iload_n 2, 1) := by decide +kernel
theorem dX6_firstOfTrunk_3 : decode cX6_firstOfTrunk 3 = .ok (.aload_n 0, 1) := by decide +kernel
theorem dX6_firstOfTrunk_4 : decode cX6_firstOfTrunk 4 = .ok (.getfield 7, 3) := by decide +kernel
theorem dX6_firstOfTrunk_7 : decode cX6_firstOfTrunk 7 = .ok (.iload_n 1, 1) := by decide +kernel
theorem dX6_firstOfTrunk_8 : decode cX6_firstOfTrunk 8 = .ok (.iaload, 1) := by decide +kernel
theorem dX6_firstOfTrunk_9 : decode cX6_firstOfTrunk 9 = .ok (.if_icmp .ge 25, 3) := by decide +kernel
theorem dX6_firstOfTrunk_12 : decode cX6_firstOfTrunk 12 = .ok (.aload_n 0, 1) := by decide +kernel
theorem dX6_firstOfTrunk_13 : decode cX6_firstOfTrunk 13 = .ok (.getfield 21, 3) := by decide +kernel
theorem dX6_firstOfTrunk_16 : decode cX6_firstOfTrunk 16 = .ok (.bipush 24, 2) := by decide +kernel
theorem dX6_firstOfTrunk_18 : decode cX6_firstOfTrunk 18 = .ok (.iload_n 1, 1) := by decide +kernel
theorem dX6_firstOfTrunk_19 : decode cX6_firstOfTrunk 19 = .ok (.imul, 1) := by decide +kernel
theorem dX6_firstOfTrunk_20 : decode cX6_firstOfTrunk 20 = .ok (.iload_n 2, 1) := by decide +kernel
theorem dX6_firstOfTrunk_21 : decode cX6_firstOfTrunk 21 = .ok (.iadd, 1) := by decide +kernel
theorem dX6_firstOfTrunk_22 : decode cX6_firstOfTrunk 22 = .ok (.iaload, 1) := by decide +kernel
theorem dX6_firstOfTrunk_23 : decode cX6_firstOfTrunk 23 = .ok (.ifCond .ne 5, 3) := by decide +kernel
theorem dX6_firstOfTrunk_26 : decode cX6_firstOfTrunk 26 = .ok (.iload_n 2, 1) := by decide +kernel
theorem dX6_firstOfTrunk_27 : decode cX6_firstOfTrunk 27 = .ok (.ireturn, 1) := by decide +kernel
theorem dX6_firstOfTrunk_28 : decode cX6_firstOfTrunk 28 = .ok (.iinc 2 1, 3) := by decide +kernel
theorem dX6_firstOfTrunk_31 : decode cX6_firstOfTrunk 31 = .ok (.goto (-29), 3) := by decide +kernel
theorem dX6_firstOfTrunk_34 : decode cX6_firstOfTrunk 34 = .ok (.iconst (-1), 1) := by decide +kernel
theorem dX6_firstOfTrunk_35 : decode cX6_firstOfTrunk 35 = .ok (.ireturn, 1) := by decide +kernel
theorem dX6_entry_0 : decode cX6_entry 0 = .ok (.iload_n 1, 1) := by decide +kernel
theorem dX6_entry_1 : decode cX6_entry 1 = .ok (.iload_n 2, 1) := by decide +kernel
theorem dX6_entry_2 : decode cX6_entry 2 = .ok (.invokestatic 120, 3) := by decide +kernel
theorem dX6_entry_5 : decode cX6_entry 5 = .ok (.ifCond .eq 7, 3) := by decide +kernel
theorem dX6_entry_8 : decode cX6_entry 8 = .ok (.iconst (-1), 1) := by decide +kernel
theorem dX6_entry_9 : decode cX6_entry 9 = .ok (.goto 13, 3) := by decide +kernel
theorem dX6_entry_12 : decode cX6_entry 12 = .ok (.aload_n 0, 1) := by decide +kernel
theorem dX6_entry_13 : decode cX6_entry 13 = .ok (.getfield 48, 3) := by decide +kernel
theorem dX6_entry_16 : decode cX6_entry 16 = .ok (.iconst 4, 1) := by decide +kernel
theorem dX6_entry_17 : decode cX6_entry 17 = .ok (.iload_n 1, 1) := by decide +kernel
theorem dX6_entry_18 : decode cX6_entry 18 = .ok (.imul, 1) := by decide +kernel
theorem dX6_entry_19 : decode cX6_entry 19 = .ok (.iload_n 2, 1) := by decide +kernel
theorem dX6_entry_20 : decode cX6_entry 20 = .ok (.iadd, 1) := by decide +kernel
theorem dX6_entry_21 : decode cX6_entry 21 = .ok (.iaload, 1) := by decide +kernel
theorem dX6_entry_22 : decode cX6_entry 22 = .ok (.ireturn, 1) := by decide +kernel
theorem dX6_removed_0 : decode cX6_removed 0 = .ok (.iload_n 1, 1) := by decide +kernel
theorem dX6_removed_1 : decode cX6_removed 1 = .ok (.iload_n 2, 1) := by decide +kernel
theorem dX6_removed_2 : decode cX6_removed 2 = .ok (.invokestatic 120, 3) := by decide +kernel
theorem dX6_removed_5 : decode cX6_removed 5 = .ok (.ifCond .ne 33, 3) := by decide +kernel
theorem dX6_removed_8 : decode cX6_removed 8 = .ok (.aload_n 0, 1) := by decide +kernel
theorem dX6_removed_9 : decode cX6_removed 9 = .ok (.getfield 48, 3) := by decide +kernel
theorem dX6_removed_12 : decode cX6_removed 12 = .ok (.iconst 4, 1) := by decide +kernel
theorem dX6_removed_13 : decode cX6_removed 13 = .ok (.iload_n 1, 1) := by decide +kernel
theorem dX6_removed_14 : decode cX6_removed 14 = .ok (.imul, 1) := by decide +kernel
theorem dX6_removed_15 : decode cX6_removed 15 = .ok (.iload_n 2, 1) := by decide +kernel
theorem dX6_removed_16 : decode cX6_removed 16 = .ok (.iadd, 1) := by decide +kernel
theorem dX6_removed_17 : decode cX6_removed 17 = .ok (.iaload, 1) := by decide +kernel
theorem dX6_removed_18 : decode cX6_removed 18 = .ok (.ifCond .lt 20, 3) := by decide +kernel
theorem dX6_removed_21 : decode cX6_removed 21 = .ok (.aload_n 0, 1) := by decide +kernel
theorem dX6_removed_22 : decode cX6_removed 22 = .ok (.getfield 51, 3) := by decide +kernel
theorem dX6_removed_25 : decode cX6_removed 25 = .ok (.iconst 4, 1) := by decide +kernel
theorem dX6_removed_26 : decode cX6_removed 26 = .ok (.iload_n 1, 1) := by decide +kernel
theorem dX6_removed_27 : decode cX6_removed 27 = .ok (.imul, 1) := by decide +kernel
theorem dX6_removed_28 : decode cX6_removed 28 = .ok (.iload_n 2, 1) := by decide +kernel
theorem dX6_removed_29 : decode cX6_removed 29 = .ok (.iadd, 1) := by decide +kernel
theorem dX6_removed_30 : decode cX6_removed 30 = .ok (.baload, 1) := by decide +kernel
theorem dX6_removed_31 : decode cX6_removed 31 = .ok (.ifCond .eq 7, 3) := by decide +kernel
theorem dX6_removed_34 : decode cX6_removed 34 = .ok (.iconst 1, 1) := by decide +kernel
theorem dX6_removed_35 : decode cX6_removed 35 = .ok (.goto 4, 3) := by decide +kernel
theorem dX6_removed_38 : decode cX6_removed 38 = .ok (.iconst 0, 1) := by decide +kernel
theorem dX6_removed_39 : decode cX6_removed 39 = .ok (.ireturn, 1) := by decide +kernel
theorem dX6_local_0 : decode cX6_local 0 = .ok (.iload_n 1, 1) := by decide +kernel
theorem dX6_local_1 : decode cX6_local 1 = .ok (.iload_n 2, 1) := by decide +kernel
theorem dX6_local_2 : decode cX6_local 2 = .ok (.invokestatic 120, 3) := by decide +kernel
theorem dX6_local_5 : decode cX6_local 5 = .ok (.ifCond .ne 15, 3) := by decide +kernel
theorem dX6_local_8 : decode cX6_local 8 = .ok (.aload_n 0, 1) := by decide +kernel
theorem dX6_local_9 : decode cX6_local 9 = .ok (.iconst 4, 1) := by decide +kernel
theorem dX6_local_10 : decode cX6_local 10 = .ok (.iload_n 1, 1) := by decide +kernel
theorem dX6_local_11 : decode cX6_local 11 = .ok (.imul, 1) := by decide +kernel
theorem dX6_local_12 : decode cX6_local 12 = .ok (.iload_n 2, 1) := by decide +kernel
theorem dX6_local_13 : decode cX6_local 13 = .ok (.iadd, 1) := by decide +kernel
theorem dX6_local_14 : decode cX6_local 14 = .ok (.invokevirtual 130, 3) := by decide +kernel
theorem dX6_local_17 : decode cX6_local 17 = .ok (.ifCond .ne 9, 3) := by decide +kernel
theorem dX6_local_20 : decode cX6_local 20 = .ok (.ldc2_w 176, 3) := by decide +kernel
theorem dX6_local_23 : decode cX6_local 23 = .ok (.goto 13, 3) := by decide +kernel
theorem dX6_local_26 : decode cX6_local 26 = .ok (.aload_n 0, 1) := by decide +kernel
theorem dX6_local_27 : decode cX6_local 27 = .ok (.getfield 54, 3) := by decide +kernel
theorem dX6_local_30 : decode cX6_local 30 = .ok (.iconst 4, 1) := by decide +kernel
theorem dX6_local_31 : decode cX6_local 31 = .ok (.iload_n 1, 1) := by decide +kernel
theorem dX6_local_32 : decode cX6_local 32 = .ok (.imul, 1) := by decide +kernel
theorem dX6_local_33 : decode cX6_local 33 = .ok (.iload_n 2, 1) := by decide +kernel
theorem dX6_local_34 : decode cX6_local 34 = .ok (.iadd, 1) := by decide +kernel
theorem dX6_local_35 : decode cX6_local 35 = .ok (.laload, 1) := by decide +kernel
theorem dX6_local_36 : decode cX6_local 36 = .ok (.lreturn, 1) := by decide +kernel
theorem dX6_selected_0 : decode cX6_selected 0 = .ok (.iload_n 1, 1) := by decide +kernel
theorem dX6_selected_1 : decode cX6_selected 1 = .ok (.iload_n 2, 1) := by decide +kernel
theorem dX6_selected_2 : decode cX6_selected 2 = .ok (.invokestatic 120, 3) := by decide +kernel
theorem dX6_selected_5 : decode cX6_selected 5 = .ok (.ifCond .eq 7, 3) := by decide +kernel
theorem dX6_selected_8 : decode cX6_selected 8 = .ok (.iconst (-1), 1) := by decide +kernel
theorem dX6_selected_9 : decode cX6_selected 9 = .ok (.goto 18, 3) := by decide +kernel
theorem dX6_selected_12 : decode cX6_selected 12 = .ok (.aload_n 0, 1) := by decide +kernel
theorem dX6_selected_13 : decode cX6_selected 13 = .ok (.iload_n 2, 1) := by decide +kernel
theorem dX6_selected_14 : decode cX6_selected 14 = .ok (.aload_n 0, 1) := by decide +kernel
theorem dX6_selected_15 : decode cX6_selected 15 = .ok (.getfield 57, 3) := by decide +kernel
theorem dX6_selected_18 : decode cX6_selected 18 = .ok (.iconst 4, 1) := by decide +kernel
theorem dX6_selected_19 : decode cX6_selected 19 = .ok (.iload_n 1, 1) := by decide +kernel
theorem dX6_selected_20 : decode cX6_selected 20 = .ok (.imul, 1) := by decide +kernel
theorem dX6_selected_21 : decode cX6_selected 21 = .ok (.iload_n 2, 1) := by decide +kernel
theorem dX6_selected_22 : decode cX6_selected 22 = .ok (.iadd, 1) := by decide +kernel
theorem dX6_selected_23 : decode cX6_selected 23 = .ok (.iaload, 1) := by decide +kernel
theorem dX6_selected_24 : decode cX6_selected 24 = .ok (.invokevirtual 134, 3) := by decide +kernel
theorem dX6_selected_27 : decode cX6_selected 27 = .ok (.ireturn, 1) := by decide +kernel
theorem dX6_sticky_0 : decode cX6_sticky 0 = .ok (.iload_n 1, 1) := by decide +kernel
theorem dX6_sticky_1 : decode cX6_sticky 1 = .ok (.iload_n 2, 1) := by decide +kernel
theorem dX6_sticky_2 : decode cX6_sticky 2 = .ok (.invokestatic 120, 3) := by decide +kernel
theorem dX6_sticky_5 : decode cX6_sticky 5 = .ok (.ifCond .eq 7, 3) := by decide +kernel
theorem dX6_sticky_8 : decode cX6_sticky 8 = .ok (.iconst (-1), 1) := by decide +kernel
theorem dX6_sticky_9 : decode cX6_sticky 9 = .ok (.goto 13, 3) := by decide +kernel
theorem dX6_sticky_12 : decode cX6_sticky 12 = .ok (.aload_n 0, 1) := by decide +kernel
theorem dX6_sticky_13 : decode cX6_sticky 13 = .ok (.getfield 57, 3) := by decide +kernel
theorem dX6_sticky_16 : decode cX6_sticky 16 = .ok (.iconst 4, 1) := by decide +kernel
theorem dX6_sticky_17 : decode cX6_sticky 17 = .ok (.iload_n 1, 1) := by decide +kernel
theorem dX6_sticky_18 : decode cX6_sticky 18 = .ok (.imul, 1) := by decide +kernel
theorem dX6_sticky_19 : decode cX6_sticky 19 = .ok (.iload_n 2, 1) := by decide +kernel
theorem dX6_sticky_20 : decode cX6_sticky 20 = .ok (.iadd, 1) := by decide +kernel
theorem dX6_sticky_21 : decode cX6_sticky 21 = .ok (.iaload, 1) := by decide +kernel
theorem dX6_sticky_22 : decode cX6_sticky 22 = .ok (.ireturn, 1) := by decide +kernel
theorem dX6_revisions_0 : decode cX6_revisions 0 = .ok (.iload_n 1, 1) := by decide +kernel
theorem dX6_revisions_1 : decode cX6_revisions 1 = .ok (.iconst 4, 1) := by decide +kernel
theorem dX6_revisions_2 : decode cX6_revisions 2 = .ok (.invokestatic 72, 3) := by decide +kernel
theorem dX6_revisions_5 : decode cX6_revisions 5 = .ok (.ifCond .eq 12, 3) := by decide +kernel
theorem dX6_revisions_8 : decode cX6_revisions 8 = .ok (.aload_n 0, 1) := by decide +kernel
theorem dX6_revisions_9 : decode cX6_revisions 9 = .ok (.getfield 7, 3) := by decide +kernel
theorem dX6_revisions_12 : decode cX6_revisions 12 = .ok (.iload_n 1, 1) := by decide +kernel
theorem dX6_revisions_13 : decode cX6_revisions 13 = .ok (.iaload, 1) := by decide +kernel
theorem dX6_revisions_14 : decode cX6_revisions 14 = .ok (.goto 4, 3) := by decide +kernel
theorem dX6_revisions_17 : decode cX6_revisions 17 = .ok (.iconst (-1), 1) := by decide +kernel
theorem dX6_revisions_18 : decode cX6_revisions 18 = .ok (.ireturn, 1) := by decide +kernel
theorem dX6_number_0 : decode cX6_number 0 = .ok (.aload_n 0, 1) := by decide +kernel
theorem dX6_number_1 : decode cX6_number 1 = .ok (.iload_n 1, 1) := by decide +kernel
theorem dX6_number_2 : decode cX6_number 2 = .ok (.iload_n 2, 1) := by decide +kernel
theorem dX6_number_3 : decode cX6_number 3 = .ok (.invokevirtual 178, 3) := by decide +kernel
theorem dX6_number_6 : decode cX6_number 6 = .ok (.ifCond .ne 7, 3) := by decide +kernel
theorem dX6_number_9 : decode cX6_number 9 = .ok (.iload_n 3, 1) := by decide +kernel
theorem dX6_number_10 : decode cX6_number 10 = .ok (.ifCond .ge 5, 3) := by decide +kernel
theorem dX6_number_13 : decode cX6_number 13 = .ok (.iconst (-1), 1) := by decide +kernel
theorem dX6_number_14 : decode cX6_number 14 = .ok (.ireturn, 1) := by decide +kernel
theorem dX6_number_15 : decode cX6_number 15 = .ok (.aload_n 0, 1) := by decide +kernel
theorem dX6_number_16 : decode cX6_number 16 = .ok (.iload_n 1, 1) := by decide +kernel
theorem dX6_number_17 : decode cX6_number 17 = .ok (.iload_n 2, 1) := by decide +kernel
theorem dX6_number_18 : decode cX6_number 18 = .ok (.invokevirtual 181, 3) := by decide +kernel
theorem dX6_number_21 : decode cX6_number 21 = .ok (.istore 4, 2) := by decide +kernel
theorem dX6_number_23 : decode cX6_number 23 = .ok (.iload_n 3, 1) := by decide +kernel
theorem dX6_number_24 : decode cX6_number 24 = .ok (.iload 4, 2) := by decide +kernel
theorem dX6_number_26 : decode cX6_number 26 = .ok (.if_icmp .lt 5, 3) := by decide +kernel
theorem dX6_number_29 : decode cX6_number 29 = .ok (.iconst 0, 1) := by decide +kernel
theorem dX6_number_30 : decode cX6_number 30 = .ok (.ireturn, 1) := by decide +kernel
theorem dX6_number_31 : decode cX6_number 31 = .ok (.iload_n 2, 1) := by decide +kernel
theorem dX6_number_32 : decode cX6_number 32 = .ok (.istore 5, 2) := by decide +kernel
theorem dX6_number_34 : decode cX6_number 34 = .ok (.iload 4, 2) := by decide +kernel
theorem dX6_number_36 : decode cX6_number 36 = .ok (.iconst 2, 1) := by decide +kernel
theorem dX6_number_37 : decode cX6_number 37 = .ok (.isub, 1) := by decide +kernel
theorem dX6_number_38 : decode cX6_number 38 = .ok (.iload_n 3, 1) := by decide +kernel
theorem dX6_number_39 : decode cX6_number 39 = .ok (.if_icmp .le 33, 3) := by decide +kernel
theorem dX6_number_42 : decode cX6_number 42 = .ok (.aload_n 0, 1) := by decide +kernel
theorem dX6_number_43 : decode cX6_number 43 = .ok (.getfield 30, 3) := by decide +kernel
theorem dX6_number_46 : decode cX6_number 46 = .ok (.bipush 6, 2) := by decide +kernel
theorem dX6_number_48 : decode cX6_number 48 = .ok (.iload_n 1, 1) := by decide +kernel
theorem dX6_number_49 : decode cX6_number 49 = .ok (.imul, 1) := by decide +kernel
theorem dX6_number_50 : decode cX6_number 50 = .ok (.aload_n 0, 1) := by decide +kernel
theorem dX6_number_51 : decode cX6_number 51 = .ok (.getfield 21, 3) := by decide +kernel
theorem dX6_number_54 : decode cX6_number 54 = .ok (.bipush 24, 2) := by decide +kernel
theorem dX6_number_56 : decode cX6_number 56 = .ok (.iload_n 1, 1) := by decide +kernel
theorem dX6_number_57 : decode cX6_number 57 = .ok (.imul, 1) := by decide +kernel
theorem dX6_number_58 : decode cX6_number 58 = .ok (.iload 5, 2) := by decide +kernel
theorem dX6_number_60 : decode cX6_number 60 = .ok (.iadd, 1) := by decide +kernel
theorem dX6_number_61 : decode cX6_number 61 = .ok (.iaload, 1) := by decide +kernel
theorem dX6_number_62 : decode cX6_number 62 = .ok (.iadd, 1) := by decide +kernel
theorem dX6_number_63 : decode cX6_number 63 = .ok (.iaload, 1) := by decide +kernel
theorem dX6_number_64 : decode cX6_number 64 = .ok (.istore 5, 2) := by decide +kernel
theorem dX6_number_66 : decode cX6_number 66 = .ok (.iinc 4 (-2), 3) := by decide +kernel
theorem dX6_number_69 : decode cX6_number 69 = .ok (.goto (-35), 3) := by decide +kernel
theorem dX6_number_72 : decode cX6_number 72 = .ok (.aload_n 0, 1) := by decide +kernel
theorem dX6_number_73 : decode cX6_number 73 = .ok (.getfield 21, 3) := by decide +kernel
theorem dX6_number_76 : decode cX6_number 76 = .ok (.bipush 24, 2) := by decide +kernel
theorem dX6_number_78 : decode cX6_number 78 = .ok (.iload_n 1, 1) := by decide +kernel
theorem dX6_number_79 : decode cX6_number 79 = .ok (.imul, 1) := by decide +kernel
theorem dX6_number_80 : decode cX6_number 80 = .ok (.iload 5, 2) := by decide +kernel
theorem dX6_number_82 : decode cX6_number 82 = .ok (.iadd, 1) := by decide +kernel
theorem dX6_number_83 : decode cX6_number 83 = .ok (.iaload, 1) := by decide +kernel
theorem dX6_number_84 : decode cX6_number 84 = .ok (.istore 6, 2) := by decide +kernel
theorem dX6_number_86 : decode cX6_number 86 = .ok (.iload_n 3, 1) := by decide +kernel
theorem dX6_number_87 : decode cX6_number 87 = .ok (.iconst 2, 1) := by decide +kernel
theorem dX6_number_88 : decode cX6_number 88 = .ok (.irem, 1) := by decide +kernel
theorem dX6_number_89 : decode cX6_number 89 = .ok (.iconst 1, 1) := by decide +kernel
theorem dX6_number_90 : decode cX6_number 90 = .ok (.if_icmp .ne 18, 3) := by decide +kernel
theorem dX6_number_93 : decode cX6_number 93 = .ok (.aload_n 0, 1) := by decide +kernel
theorem dX6_number_94 : decode cX6_number 94 = .ok (.getfield 24, 3) := by decide +kernel
theorem dX6_number_97 : decode cX6_number 97 = .ok (.bipush 24, 2) := by decide +kernel
theorem dX6_number_99 : decode cX6_number 99 = .ok (.iload_n 1, 1) := by decide +kernel
theorem dX6_number_100 : decode cX6_number 100 = .ok (.imul, 1) := by decide +kernel
theorem dX6_number_101 : decode cX6_number 101 = .ok (.iload 5, 2) := by decide +kernel
theorem dX6_number_103 : decode cX6_number 103 = .ok (.iadd, 1) := by decide +kernel
theorem dX6_number_104 : decode cX6_number 104 = .ok (.iaload, 1) := by decide +kernel
theorem dX6_number_105 : decode cX6_number 105 = .ok (.goto 24, 3) := by decide +kernel
theorem dX6_number_108 : decode cX6_number 108 = .ok (.iload 6, 2) := by decide +kernel
theorem dX6_number_110 : decode cX6_number 110 = .ok (.ifCond .ne 7, 3) := by decide +kernel
theorem dX6_number_113 : decode cX6_number 113 = .ok (.iconst 1, 1) := by decide +kernel
theorem dX6_number_114 : decode cX6_number 114 = .ok (.goto 15, 3) := by decide +kernel
theorem dX6_number_117 : decode cX6_number 117 = .ok (.aload_n 0, 1) := by decide +kernel
theorem dX6_number_118 : decode cX6_number 118 = .ok (.getfield 33, 3) := by decide +kernel
theorem dX6_number_121 : decode cX6_number 121 = .ok (.bipush 6, 2) := by decide +kernel
theorem dX6_number_123 : decode cX6_number 123 = .ok (.iload_n 1, 1) := by decide +kernel
theorem dX6_number_124 : decode cX6_number 124 = .ok (.imul, 1) := by decide +kernel
theorem dX6_number_125 : decode cX6_number 125 = .ok (.iload 6, 2) := by decide +kernel
theorem dX6_number_127 : decode cX6_number 127 = .ok (.iadd, 1) := by decide +kernel
theorem dX6_number_128 : decode cX6_number 128 = .ok (.iaload, 1) := by decide +kernel
theorem dX6_number_129 : decode cX6_number 129 = .ok (.ireturn, 1) := by decide +kernel
theorem dX6_noRevision_0 : decode cX6_noRevision 0 = .ok (.iload_n 1, 1) := by decide +kernel
theorem dX6_noRevision_1 : decode cX6_noRevision 1 = .ok (.iconst 4, 1) := by decide +kernel
theorem dX6_noRevision_2 : decode cX6_noRevision 2 = .ok (.invokestatic 72, 3) := by decide +kernel
theorem dX6_noRevision_5 : decode cX6_noRevision 5 = .ok (.ifCond .eq 16, 3) := by decide +kernel
theorem dX6_noRevision_8 : decode cX6_noRevision 8 = .ok (.iload_n 2, 1) := by decide +kernel
theorem dX6_noRevision_9 : decode cX6_noRevision 9 = .ok (.aload_n 0, 1) := by decide +kernel
theorem dX6_noRevision_10 : decode cX6_noRevision 10 = .ok (.getfield 7, 3) := by decide +kernel
theorem dX6_noRevision_13 : decode cX6_noRevision 13 = .ok (.iload_n 1, 1) := by decide +kernel
theorem dX6_noRevision_14 : decode cX6_noRevision 14 = .ok (.iaload, 1) := by decide +kernel
theorem dX6_noRevision_15 : decode cX6_noRevision 15 = .ok (.invokestatic 72, 3) := by decide +kernel
theorem dX6_noRevision_18 : decode cX6_noRevision 18 = .ok (.ifCond .ne 7, 3) := by decide +kernel
theorem dX6_noRevision_21 : decode cX6_noRevision 21 = .ok (.iconst 1, 1) := by decide +kernel
theorem dX6_noRevision_22 : decode cX6_noRevision 22 = .ok (.goto 4, 3) := by decide +kernel
theorem dX6_noRevision_25 : decode cX6_noRevision 25 = .ok (.iconst 0, 1) := by decide +kernel
theorem dX6_noRevision_26 : decode cX6_noRevision 26 = .ok (.ireturn, 1) := by decide +kernel
theorem dX6_parts_0 : decode cX6_parts 0 = .ok (.iconst 2, 1) := by decide +kernel
theorem dX6_parts_1 : decode cX6_parts 1 = .ok (.istore_n 3, 1) := by decide +kernel
theorem dX6_parts_2 : decode cX6_parts 2 = .ok (.iload_n 2, 1) := by decide +kernel
theorem dX6_parts_3 : decode cX6_parts 3 = .ok (.istore 4, 2) := by decide +kernel
theorem dX6_parts_5 : decode cX6_parts 5 = .ok (.aload_n 0, 1) := by decide +kernel
theorem dX6_parts_6 : decode cX6_parts 6 = .ok (.getfield 21, 3) := by decide +kernel
theorem dX6_parts_9 : decode cX6_parts 9 = .ok (.bipush 24, 2) := by decide +kernel
theorem dX6_parts_11 : decode cX6_parts 11 = .ok (.iload_n 1, 1) := by decide +kernel
theorem dX6_parts_12 : decode cX6_parts 12 = .ok (.imul, 1) := by decide +kernel
theorem dX6_parts_13 : decode cX6_parts 13 = .ok (.iload 4, 2) := by decide +kernel
theorem dX6_parts_15 : decode cX6_parts 15 = .ok (.iadd, 1) := by decide +kernel
theorem dX6_parts_16 : decode cX6_parts 16 = .ok (.iaload, 1) := by decide +kernel
theorem dX6_parts_17 : decode cX6_parts 17 = .ok (.ifCond .le 33, 3) := by decide +kernel
theorem dX6_parts_20 : decode cX6_parts 20 = .ok (.aload_n 0, 1) := by decide +kernel
theorem dX6_parts_21 : decode cX6_parts 21 = .ok (.getfield 30, 3) := by decide +kernel
theorem dX6_parts_24 : decode cX6_parts 24 = .ok (.bipush 6, 2) := by decide +kernel
theorem dX6_parts_26 : decode cX6_parts 26 = .ok (.iload_n 1, 1) := by decide +kernel
theorem dX6_parts_27 : decode cX6_parts 27 = .ok (.imul, 1) := by decide +kernel
theorem dX6_parts_28 : decode cX6_parts 28 = .ok (.aload_n 0, 1) := by decide +kernel
theorem dX6_parts_29 : decode cX6_parts 29 = .ok (.getfield 21, 3) := by decide +kernel
theorem dX6_parts_32 : decode cX6_parts 32 = .ok (.bipush 24, 2) := by decide +kernel
theorem dX6_parts_34 : decode cX6_parts 34 = .ok (.iload_n 1, 1) := by decide +kernel
theorem dX6_parts_35 : decode cX6_parts 35 = .ok (.imul, 1) := by decide +kernel
theorem dX6_parts_36 : decode cX6_parts 36 = .ok (.iload 4, 2) := by decide +kernel
theorem dX6_parts_38 : decode cX6_parts 38 = .ok (.iadd, 1) := by decide +kernel
theorem dX6_parts_39 : decode cX6_parts 39 = .ok (.iaload, 1) := by decide +kernel
theorem dX6_parts_40 : decode cX6_parts 40 = .ok (.iadd, 1) := by decide +kernel
theorem dX6_parts_41 : decode cX6_parts 41 = .ok (.iaload, 1) := by decide +kernel
theorem dX6_parts_42 : decode cX6_parts 42 = .ok (.istore 4, 2) := by decide +kernel
theorem dX6_parts_44 : decode cX6_parts 44 = .ok (.iinc 3 2, 3) := by decide +kernel
theorem dX6_parts_47 : decode cX6_parts 47 = .ok (.goto (-42), 3) := by decide +kernel
theorem dX6_parts_50 : decode cX6_parts 50 = .ok (.iload_n 3, 1) := by decide +kernel
theorem dX6_parts_51 : decode cX6_parts 51 = .ok (.ireturn, 1) := by decide +kernel
theorem dX6_content_0 : decode cX6_content 0 = .ok (.aload_n 0, 1) := by decide +kernel
theorem dX6_content_1 : decode cX6_content 1 = .ok (.iload_n 1, 1) := by decide +kernel
theorem dX6_content_2 : decode cX6_content 2 = .ok (.iload_n 2, 1) := by decide +kernel
theorem dX6_content_3 : decode cX6_content 3 = .ok (.invokevirtual 178, 3) := by decide +kernel
theorem dX6_content_6 : decode cX6_content 6 = .ok (.ifCond .eq 9, 3) := by decide +kernel
theorem dX6_content_9 : decode cX6_content 9 = .ok (.ldc2_w 176, 3) := by decide +kernel
theorem dX6_content_12 : decode cX6_content 12 = .ok (.goto 14, 3) := by decide +kernel
theorem dX6_content_15 : decode cX6_content 15 = .ok (.aload_n 0, 1) := by decide +kernel
theorem dX6_content_16 : decode cX6_content 16 = .ok (.getfield 13, 3) := by decide +kernel
theorem dX6_content_19 : decode cX6_content 19 = .ok (.bipush 24, 2) := by decide +kernel
theorem dX6_content_21 : decode cX6_content 21 = .ok (.iload_n 1, 1) := by decide +kernel
theorem dX6_content_22 : decode cX6_content 22 = .ok (.imul, 1) := by decide +kernel
theorem dX6_content_23 : decode cX6_content 23 = .ok (.iload_n 2, 1) := by decide +kernel
theorem dX6_content_24 : decode cX6_content 24 = .ok (.iadd, 1) := by decide +kernel
theorem dX6_content_25 : decode cX6_content 25 = .ok (.laload, 1) := by decide +kernel
theorem dX6_content_26 : decode cX6_content 26 = .ok (.lreturn, 1) := by decide +kernel
theorem dX6_dead_0 : decode cX6_dead 0 = .ok (.aload_n 0, 1) := by decide +kernel
theorem dX6_dead_1 : decode cX6_dead 1 = .ok (.iload_n 1, 1) := by decide +kernel
theorem dX6_dead_2 : decode cX6_dead 2 = .ok (.iload_n 2, 1) := by decide +kernel
theorem dX6_dead_3 : decode cX6_dead 3 = .ok (.invokevirtual 178, 3) := by decide +kernel
theorem dX6_dead_6 : decode cX6_dead 6 = .ok (.ifCond .ne 21, 3) := by decide +kernel
theorem dX6_dead_9 : decode cX6_dead 9 = .ok (.aload_n 0, 1) := by decide +kernel
theorem dX6_dead_10 : decode cX6_dead 10 = .ok (.getfield 17, 3) := by decide +kernel
theorem dX6_dead_13 : decode cX6_dead 13 = .ok (.bipush 24, 2) := by decide +kernel
theorem dX6_dead_15 : decode cX6_dead 15 = .ok (.iload_n 1, 1) := by decide +kernel
theorem dX6_dead_16 : decode cX6_dead 16 = .ok (.imul, 1) := by decide +kernel
theorem dX6_dead_17 : decode cX6_dead 17 = .ok (.iload_n 2, 1) := by decide +kernel
theorem dX6_dead_18 : decode cX6_dead 18 = .ok (.iadd, 1) := by decide +kernel
theorem dX6_dead_19 : decode cX6_dead 19 = .ok (.baload, 1) := by decide +kernel
theorem dX6_dead_20 : decode cX6_dead 20 = .ok (.ifCond .eq 7, 3) := by decide +kernel
theorem dX6_dead_23 : decode cX6_dead 23 = .ok (.iconst 1, 1) := by decide +kernel
theorem dX6_dead_24 : decode cX6_dead 24 = .ok (.goto 4, 3) := by decide +kernel
theorem dX6_dead_27 : decode cX6_dead 27 = .ok (.iconst 0, 1) := by decide +kernel
theorem dX6_dead_28 : decode cX6_dead 28 = .ok (.ireturn, 1) := by decide +kernel
theorem dX6_kept_0 : decode cX6_kept 0 = .ok (.aload_n 0, 1) := by decide +kernel
theorem dX6_kept_1 : decode cX6_kept 1 = .ok (.iload_n 1, 1) := by decide +kernel
theorem dX6_kept_2 : decode cX6_kept 2 = .ok (.iload_n 2, 1) := by decide +kernel
theorem dX6_kept_3 : decode cX6_kept 3 = .ok (.invokevirtual 178, 3) := by decide +kernel
theorem dX6_kept_6 : decode cX6_kept 6 = .ok (.ifCond .eq 5, 3) := by decide +kernel
theorem dX6_kept_9 : decode cX6_kept 9 = .ok (.iconst (-1), 1) := by decide +kernel
theorem dX6_kept_10 : decode cX6_kept 10 = .ok (.ireturn, 1) := by decide +kernel
theorem dX6_kept_11 : decode cX6_kept 11 = .ok (.aload_n 0, 1) := by decide +kernel
theorem dX6_kept_12 : decode cX6_kept 12 = .ok (.getfield 13, 3) := by decide +kernel
theorem dX6_kept_15 : decode cX6_kept 15 = .ok (.bipush 24, 2) := by decide +kernel
theorem dX6_kept_17 : decode cX6_kept 17 = .ok (.iload_n 1, 1) := by decide +kernel
theorem dX6_kept_18 : decode cX6_kept 18 = .ok (.imul, 1) := by decide +kernel
theorem dX6_kept_19 : decode cX6_kept 19 = .ok (.iload_n 2, 1) := by decide +kernel
theorem dX6_kept_20 : decode cX6_kept 20 = .ok (.iadd, 1) := by decide +kernel
theorem dX6_kept_21 : decode cX6_kept 21 = .ok (.laload, 1) := by decide +kernel
theorem dX6_kept_22 : decode cX6_kept 22 = .ok (.lstore_n 3, 1) := by decide +kernel
theorem dX6_kept_23 : decode cX6_kept 23 = .ok (.aload_n 0, 1) := by decide +kernel
theorem dX6_kept_24 : decode cX6_kept 24 = .ok (.getfield 21, 3) := by decide +kernel
theorem dX6_kept_27 : decode cX6_kept 27 = .ok (.bipush 24, 2) := by decide +kernel
theorem dX6_kept_29 : decode cX6_kept 29 = .ok (.iload_n 1, 1) := by decide +kernel
theorem dX6_kept_30 : decode cX6_kept 30 = .ok (.imul, 1) := by decide +kernel
theorem dX6_kept_31 : decode cX6_kept 31 = .ok (.iload_n 2, 1) := by decide +kernel
theorem dX6_kept_32 : decode cX6_kept 32 = .ok (.iadd, 1) := by decide +kernel
theorem dX6_kept_33 : decode cX6_kept 33 = .ok (.iaload, 1) := by decide +kernel
theorem dX6_kept_34 : decode cX6_kept 34 = .ok (.istore 5, 2) := by decide +kernel
theorem dX6_kept_36 : decode cX6_kept 36 = .ok (.aload_n 0, 1) := by decide +kernel
theorem dX6_kept_37 : decode cX6_kept 37 = .ok (.getfield 24, 3) := by decide +kernel
theorem dX6_kept_40 : decode cX6_kept 40 = .ok (.bipush 24, 2) := by decide +kernel
theorem dX6_kept_42 : decode cX6_kept 42 = .ok (.iload_n 1, 1) := by decide +kernel
theorem dX6_kept_43 : decode cX6_kept 43 = .ok (.imul, 1) := by decide +kernel
theorem dX6_kept_44 : decode cX6_kept 44 = .ok (.iload_n 2, 1) := by decide +kernel
theorem dX6_kept_45 : decode cX6_kept 45 = .ok (.iadd, 1) := by decide +kernel
theorem dX6_kept_46 : decode cX6_kept 46 = .ok (.iaload, 1) := by decide +kernel
theorem dX6_kept_47 : decode cX6_kept 47 = .ok (.istore 6, 2) := by decide +kernel
theorem dX6_kept_49 : decode cX6_kept 49 = .ok (.iload 5, 2) := by decide +kernel
theorem dX6_kept_51 : decode cX6_kept 51 = .ok (.ifCond .ne 16, 3) := by decide +kernel
theorem dX6_kept_54 : decode cX6_kept 54 = .ok (.aload_n 0, 1) := by decide +kernel
theorem dX6_kept_55 : decode cX6_kept 55 = .ok (.iload_n 1, 1) := by decide +kernel
theorem dX6_kept_56 : decode cX6_kept 56 = .ok (.iconst 0, 1) := by decide +kernel
theorem dX6_kept_57 : decode cX6_kept 57 = .ok (.iload 6, 2) := by decide +kernel
theorem dX6_kept_59 : decode cX6_kept 59 = .ok (.iconst 1, 1) := by decide +kernel
theorem dX6_kept_60 : decode cX6_kept 60 = .ok (.iadd, 1) := by decide +kernel
theorem dX6_kept_61 : decode cX6_kept 61 = .ok (.invokevirtual 184, 3) := by decide +kernel
theorem dX6_kept_64 : decode cX6_kept 64 = .ok (.goto 35, 3) := by decide +kernel
theorem dX6_kept_67 : decode cX6_kept 67 = .ok (.iload 6, 2) := by decide +kernel
theorem dX6_kept_69 : decode cX6_kept 69 = .ok (.iconst 1, 1) := by decide +kernel
theorem dX6_kept_70 : decode cX6_kept 70 = .ok (.if_icmp .ne 18, 3) := by decide +kernel
theorem dX6_kept_73 : decode cX6_kept 73 = .ok (.aload_n 0, 1) := by decide +kernel
theorem dX6_kept_74 : decode cX6_kept 74 = .ok (.getfield 30, 3) := by decide +kernel
theorem dX6_kept_77 : decode cX6_kept 77 = .ok (.bipush 6, 2) := by decide +kernel
theorem dX6_kept_79 : decode cX6_kept 79 = .ok (.iload_n 1, 1) := by decide +kernel
theorem dX6_kept_80 : decode cX6_kept 80 = .ok (.imul, 1) := by decide +kernel
theorem dX6_kept_81 : decode cX6_kept 81 = .ok (.iload 5, 2) := by decide +kernel
theorem dX6_kept_83 : decode cX6_kept 83 = .ok (.iadd, 1) := by decide +kernel
theorem dX6_kept_84 : decode cX6_kept 84 = .ok (.iaload, 1) := by decide +kernel
theorem dX6_kept_85 : decode cX6_kept 85 = .ok (.goto 14, 3) := by decide +kernel
theorem dX6_kept_88 : decode cX6_kept 88 = .ok (.aload_n 0, 1) := by decide +kernel
theorem dX6_kept_89 : decode cX6_kept 89 = .ok (.iload_n 1, 1) := by decide +kernel
theorem dX6_kept_90 : decode cX6_kept 90 = .ok (.iload 5, 2) := by decide +kernel
theorem dX6_kept_92 : decode cX6_kept 92 = .ok (.iload 6, 2) := by decide +kernel
theorem dX6_kept_94 : decode cX6_kept 94 = .ok (.iconst 1, 1) := by decide +kernel
theorem dX6_kept_95 : decode cX6_kept 95 = .ok (.isub, 1) := by decide +kernel
theorem dX6_kept_96 : decode cX6_kept 96 = .ok (.invokevirtual 184, 3) := by decide +kernel
theorem dX6_kept_99 : decode cX6_kept 99 = .ok (.istore 7, 2) := by decide +kernel
theorem dX6_kept_101 : decode cX6_kept 101 = .ok (.iload 7, 2) := by decide +kernel
theorem dX6_kept_103 : decode cX6_kept 103 = .ok (.ifCond .ge 10, 3) := by decide +kernel
theorem dX6_kept_106 : decode cX6_kept 106 = .ok (.lload_n 3, 1) := by decide +kernel
theorem dX6_kept_107 : decode cX6_kept 107 = .ok (.invokestatic 78, 3) := by decide +kernel
theorem dX6_kept_110 : decode cX6_kept 110 = .ok (.goto 20, 3) := by decide +kernel
theorem dX6_kept_113 : decode cX6_kept 113 = .ok (.aload_n 0, 1) := by decide +kernel
theorem dX6_kept_114 : decode cX6_kept 114 = .ok (.aload_n 0, 1) := by decide +kernel
theorem dX6_kept_115 : decode cX6_kept 115 = .ok (.getfield 13, 3) := by decide +kernel
theorem dX6_kept_118 : decode cX6_kept 118 = .ok (.bipush 24, 2) := by decide +kernel
theorem dX6_kept_120 : decode cX6_kept 120 = .ok (.iload_n 1, 1) := by decide +kernel
theorem dX6_kept_121 : decode cX6_kept 121 = .ok (.imul, 1) := by decide +kernel
theorem dX6_kept_122 : decode cX6_kept 122 = .ok (.iload 7, 2) := by decide +kernel
theorem dX6_kept_124 : decode cX6_kept 124 = .ok (.iadd, 1) := by decide +kernel
theorem dX6_kept_125 : decode cX6_kept 125 = .ok (.laload, 1) := by decide +kernel
theorem dX6_kept_126 : decode cX6_kept 126 = .ok (.lload_n 3, 1) := by decide +kernel
theorem dX6_kept_127 : decode cX6_kept 127 = .ok (.invokevirtual 187, 3) := by decide +kernel
theorem dX6_kept_130 : decode cX6_kept 130 = .ok (.ireturn, 1) := by decide +kernel
theorem dX6_revisionAt_0 : decode cX6_revisionAt 0 = .ok (.iconst 0, 1) := by decide +kernel
theorem dX6_revisionAt_1 : decode cX6_revisionAt 1 = .ok (.istore 4, 2) := by decide +kernel
theorem dX6_revisionAt_3 : decode cX6_revisionAt 3 = .ok (.iload 4, 2) := by decide +kernel
theorem dX6_revisionAt_5 : decode cX6_revisionAt 5 = .ok (.aload_n 0, 1) := by decide +kernel
theorem dX6_revisionAt_6 : decode cX6_revisionAt 6 = .ok (.getfield 7, 3) := by decide +kernel
theorem dX6_revisionAt_9 : decode cX6_revisionAt 9 = .ok (.iload_n 1, 1) := by decide +kernel
theorem dX6_revisionAt_10 : decode cX6_revisionAt 10 = .ok (.iaload, 1) := by decide +kernel
theorem dX6_revisionAt_11 : decode cX6_revisionAt 11 = .ok (.if_icmp .ge 44, 3) := by decide +kernel
theorem dX6_revisionAt_14 : decode cX6_revisionAt 14 = .ok (.aload_n 0, 1) := by decide +kernel
theorem dX6_revisionAt_15 : decode cX6_revisionAt 15 = .ok (.getfield 21, 3) := by decide +kernel
theorem dX6_revisionAt_18 : decode cX6_revisionAt 18 = .ok (.bipush 24, 2) := by decide +kernel
theorem dX6_revisionAt_20 : decode cX6_revisionAt 20 = .ok (.iload_n 1, 1) := by decide +kernel
theorem dX6_revisionAt_21 : decode cX6_revisionAt 21 = .ok (.imul, 1) := by decide +kernel
theorem dX6_revisionAt_22 : decode cX6_revisionAt 22 = .ok (.iload 4, 2) := by decide +kernel
theorem dX6_revisionAt_24 : decode cX6_revisionAt 24 = .ok (.iadd, 1) := by decide +kernel
theorem dX6_revisionAt_25 : decode cX6_revisionAt 25 = .ok (.iaload, 1) := by decide +kernel
theorem dX6_revisionAt_26 : decode cX6_revisionAt 26 = .ok (.iload_n 2, 1) := by decide +kernel
theorem dX6_revisionAt_27 : decode cX6_revisionAt 27 = .ok (.if_icmp .ne 22, 3) := by decide +kernel
theorem dX6_revisionAt_30 : decode cX6_revisionAt 30 = .ok (.aload_n 0, 1) := by decide +kernel
theorem dX6_revisionAt_31 : decode cX6_revisionAt 31 = .ok (.getfield 24, 3) := by decide +kernel
theorem dX6_revisionAt_34 : decode cX6_revisionAt 34 = .ok (.bipush 24, 2) := by decide +kernel
theorem dX6_revisionAt_36 : decode cX6_revisionAt 36 = .ok (.iload_n 1, 1) := by decide +kernel
theorem dX6_revisionAt_37 : decode cX6_revisionAt 37 = .ok (.imul, 1) := by decide +kernel
theorem dX6_revisionAt_38 : decode cX6_revisionAt 38 = .ok (.iload 4, 2) := by decide +kernel
theorem dX6_revisionAt_40 : decode cX6_revisionAt 40 = .ok (.iadd, 1) := by decide +kernel
theorem dX6_revisionAt_41 : decode cX6_revisionAt 41 = .ok (.iaload, 1) := by decide +kernel
theorem dX6_revisionAt_42 : decode cX6_revisionAt 42 = .ok (.iload_n 3, 1) := by decide +kernel
theorem dX6_revisionAt_43 : decode cX6_revisionAt 43 = .ok (.if_icmp .ne 6, 3) := by decide +kernel
theorem dX6_revisionAt_46 : decode cX6_revisionAt 46 = .ok (.iload 4, 2) := by decide +kernel
theorem dX6_revisionAt_48 : decode cX6_revisionAt 48 = .ok (.ireturn, 1) := by decide +kernel
theorem dX6_revisionAt_49 : decode cX6_revisionAt 49 = .ok (.iinc 4 1, 3) := by decide +kernel
theorem dX6_revisionAt_52 : decode cX6_revisionAt 52 = .ok (.goto (-49), 3) := by decide +kernel
theorem dX6_revisionAt_55 : decode cX6_revisionAt 55 = .ok (.iconst (-1), 1) := by decide +kernel
theorem dX6_revisionAt_56 : decode cX6_revisionAt 56 = .ok (.ireturn, 1) := by decide +kernel
theorem dX6_difference_0 : decode cX6_difference 0 = .ok (.aload_n 0, 1) := by decide +kernel
theorem dX6_difference_1 : decode cX6_difference 1 = .ok (.lload_n 1, 1) := by decide +kernel
theorem dX6_difference_2 : decode cX6_difference 2 = .ok (.lload_n 3, 1) := by decide +kernel
theorem dX6_difference_3 : decode cX6_difference 3 = .ok (.invokevirtual 88, 3) := by decide +kernel
theorem dX6_difference_6 : decode cX6_difference 6 = .ok (.lload_n 1, 1) := by decide +kernel
theorem dX6_difference_7 : decode cX6_difference 7 = .ok (.invokestatic 78, 3) := by decide +kernel
theorem dX6_difference_10 : decode cX6_difference 10 = .ok (.lload_n 3, 1) := by decide +kernel
theorem dX6_difference_11 : decode cX6_difference 11 = .ok (.invokestatic 78, 3) := by decide +kernel
theorem dX6_difference_14 : decode cX6_difference 14 = .ok (.iadd, 1) := by decide +kernel
theorem dX6_difference_15 : decode cX6_difference 15 = .ok (.iconst 2, 1) := by decide +kernel
theorem dX6_difference_16 : decode cX6_difference 16 = .ok (.aload_n 0, 1) := by decide +kernel
theorem dX6_difference_17 : decode cX6_difference 17 = .ok (.getfield 60, 3) := by decide +kernel
theorem dX6_difference_20 : decode cX6_difference 20 = .ok (.iconst 0, 1) := by decide +kernel
theorem dX6_difference_21 : decode cX6_difference 21 = .ok (.iaload, 1) := by decide +kernel
theorem dX6_difference_22 : decode cX6_difference 22 = .ok (.imul, 1) := by decide +kernel
theorem dX6_difference_23 : decode cX6_difference 23 = .ok (.isub, 1) := by decide +kernel
theorem dX6_difference_24 : decode cX6_difference 24 = .ok (.ireturn, 1) := by decide +kernel
theorem dX6_named_0 : decode cX6_named 0 = .ok (.iload_n 1, 1) := by decide +kernel
theorem dX6_named_1 : decode cX6_named 1 = .ok (.iconst 4, 1) := by decide +kernel
theorem dX6_named_2 : decode cX6_named 2 = .ok (.invokestatic 72, 3) := by decide +kernel
theorem dX6_named_5 : decode cX6_named 5 = .ok (.ifCond .eq 11, 3) := by decide +kernel
theorem dX6_named_8 : decode cX6_named 8 = .ok (.iload_n 2, 1) := by decide +kernel
theorem dX6_named_9 : decode cX6_named 9 = .ok (.iconst 5, 1) := by decide +kernel
theorem dX6_named_10 : decode cX6_named 10 = .ok (.invokestatic 72, 3) := by decide +kernel
theorem dX6_named_13 : decode cX6_named 13 = .ok (.ifCond .ne 7, 3) := by decide +kernel
theorem dX6_named_16 : decode cX6_named 16 = .ok (.iconst (-1), 1) := by decide +kernel
theorem dX6_named_17 : decode cX6_named 17 = .ok (.goto 13, 3) := by decide +kernel
theorem dX6_named_20 : decode cX6_named 20 = .ok (.aload_n 0, 1) := by decide +kernel
theorem dX6_named_21 : decode cX6_named 21 = .ok (.getfield 45, 3) := by decide +kernel
theorem dX6_named_24 : decode cX6_named 24 = .ok (.iconst 5, 1) := by decide +kernel
theorem dX6_named_25 : decode cX6_named 25 = .ok (.iload_n 1, 1) := by decide +kernel
theorem dX6_named_26 : decode cX6_named 26 = .ok (.imul, 1) := by decide +kernel
theorem dX6_named_27 : decode cX6_named 27 = .ok (.iload_n 2, 1) := by decide +kernel
theorem dX6_named_28 : decode cX6_named 28 = .ok (.iadd, 1) := by decide +kernel
theorem dX6_named_29 : decode cX6_named 29 = .ok (.iaload, 1) := by decide +kernel
theorem dX6_named_30 : decode cX6_named 30 = .ok (.ireturn, 1) := by decide +kernel
