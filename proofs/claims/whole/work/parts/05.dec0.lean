/-! what the bytes say -/
theorem dX5_init_0 : decode cX5_init 0 = .ok (.aload_n 0, 1) := by decide +kernel
theorem dX5_init_1 : decode cX5_init 1 = .ok (.invokespecial 1, 3) := by decide +kernel
theorem dX5_init_4 : decode cX5_init 4 = .ok (.aload_n 0, 1) := by decide +kernel
theorem dX5_init_5 : decode cX5_init 5 = .ok (.iconst 4, 1) := by decide +kernel
theorem dX5_init_6 : decode cX5_init 6 = .ok (.anewarray 9, 3) := by decide +kernel
theorem dX5_init_9 : decode cX5_init 9 = .ok (.putfield 11, 3) := by decide +kernel
theorem dX5_init_12 : decode cX5_init 12 = .ok (.iconst 0, 1) := by decide +kernel
theorem dX5_init_13 : decode cX5_init 13 = .ok (.istore_n 1, 1) := by decide +kernel
theorem dX5_init_14 : decode cX5_init 14 = .ok (.iload_n 1, 1) := by decide +kernel
theorem dX5_init_15 : decode cX5_init 15 = .ok (.iconst 4, 1) := by decide +kernel
theorem dX5_init_16 : decode cX5_init 16 = .ok (.if_icmp .ge 22, 3) := by decide +kernel
theorem dX5_init_19 : decode cX5_init 19 = .ok (.aload_n 0, 1) := by decide +kernel
theorem dX5_init_20 : decode cX5_init 20 = .ok (.getfield 11, 3) := by decide +kernel
theorem dX5_init_23 : decode cX5_init 23 = .ok (.iload_n 1, 1) := by decide +kernel
theorem dX5_init_24 : decode cX5_init 24 = .ok (.new 9, 3) := by decide +kernel
theorem dX5_init_27 : decode cX5_init 27 = .ok (.dup, 1) := by decide +kernel
theorem dX5_init_28 : decode cX5_init 28 = .ok (.invokespecial 15, 3) := by decide +kernel
theorem dX5_init_31 : decode cX5_init 31 = .ok (.aastore, 1) := by decide +kernel
theorem dX5_init_32 : decode cX5_init 32 = .ok (.iinc 1 1, 3) := by decide +kernel
theorem dX5_init_35 : decode cX5_init 35 = .ok (.goto (-21), 3) := by decide +kernel
theorem dX5_init_38 : decode cX5_init 38 = .ok (.aload_n 0, 1) := by decide +kernel
theorem dX5_init_39 : decode cX5_init 39 = .ok (.bipush 12, 2) := by decide +kernel
theorem dX5_init_41 : decode cX5_init 41 = .ok (.anewarray 16, 3) := by decide +kernel
theorem dX5_init_44 : decode cX5_init 44 = .ok (.putfield 18, 3) := by decide +kernel
theorem dX5_init_47 : decode cX5_init 47 = .ok (.iconst 0, 1) := by decide +kernel
theorem dX5_init_48 : decode cX5_init 48 = .ok (.istore_n 1, 1) := by decide +kernel
theorem dX5_init_49 : decode cX5_init 49 = .ok (.iload_n 1, 1) := by decide +kernel
theorem dX5_init_50 : decode cX5_init 50 = .ok (.aload_n 0, 1) := by decide +kernel
theorem dX5_init_51 : decode cX5_init 51 = .ok (.getfield 18, 3) := by decide +kernel
theorem dX5_init_54 : decode cX5_init 54 = .ok (.arraylength, 1) := by decide +kernel
theorem dX5_init_55 : decode cX5_init 55 = .ok (.if_icmp .ge 22, 3) := by decide +kernel
theorem dX5_init_58 : decode cX5_init 58 = .ok (.aload_n 0, 1) := by decide +kernel
theorem dX5_init_59 : decode cX5_init 59 = .ok (.getfield 18, 3) := by decide +kernel
theorem dX5_init_62 : decode cX5_init 62 = .ok (.iload_n 1, 1) := by decide +kernel
theorem dX5_init_63 : decode cX5_init 63 = .ok (.new 16, 3) := by decide +kernel
theorem dX5_init_66 : decode cX5_init 66 = .ok (.dup, 1) := by decide +kernel
theorem dX5_init_67 : decode cX5_init 67 = .ok (.invokespecial 22, 3) := by decide +kernel
theorem dX5_init_70 : decode cX5_init 70 = .ok (.aastore, 1) := by decide +kernel
theorem dX5_init_71 : decode cX5_init 71 = .ok (.iinc 1 1, 3) := by decide +kernel
theorem dX5_init_74 : decode cX5_init 74 = .ok (.goto (-25), 3) := by decide +kernel
theorem dX5_init_77 : decode cX5_init 77 = .ok (.aload_n 0, 1) := by decide +kernel
theorem dX5_init_78 : decode cX5_init 78 = .ok (.iconst 5, 1) := by decide +kernel
theorem dX5_init_79 : decode cX5_init 79 = .ok (.newarray .int, 2) := by decide +kernel
theorem dX5_init_81 : decode cX5_init 81 = .ok (.putfield 23, 3) := by decide +kernel
theorem dX5_init_84 : decode cX5_init 84 = .ok (.aload_n 0, 1) := by decide +kernel
theorem dX5_init_85 : decode cX5_init 85 = .ok (.new 27, 3) := by decide +kernel
theorem dX5_init_88 : decode cX5_init 88 = .ok (.dup, 1) := by decide +kernel
theorem dX5_init_89 : decode cX5_init 89 = .ok (.invokespecial 29, 3) := by decide +kernel
theorem dX5_init_92 : decode cX5_init 92 = .ok (.putfield 30, 3) := by decide +kernel
theorem dX5_init_95 : decode cX5_init 95 = .ok (.aload_n 0, 1) := by decide +kernel
theorem dX5_init_96 : decode cX5_init 96 = .ok (.new 34, 3) := by decide +kernel
theorem dX5_init_99 : decode cX5_init 99 = .ok (.dup, 1) := by decide +kernel
theorem dX5_init_100 : decode cX5_init 100 = .ok (.invokespecial 36, 3) := by decide +kernel
theorem dX5_init_103 : decode cX5_init 103 = .ok (.putfield 37, 3) := by decide +kernel
theorem dX5_init_106 : decode cX5_init 106 = .ok (.return_, 1) := by decide +kernel
theorem dX2_init_0 : decode cX2_init 0 = .ok (.aload_n 0, 1) := by decide +kernel
theorem dX2_init_1 : decode cX2_init 1 = .ok (.invokespecial 3, 3) := by decide +kernel
theorem dX2_init_4 : decode cX2_init 4 = .ok (.aload_n 0, 1) := by decide +kernel
theorem dX2_init_5 : decode cX2_init 5 = .ok (.bipush 24, 2) := by decide +kernel
theorem dX2_init_7 : decode cX2_init 7 = .ok (.newarray .long, 2) := by decide +kernel
theorem dX2_init_9 : decode cX2_init 9 = .ok (.putfield 9, 3) := by decide +kernel
theorem dX2_init_12 : decode cX2_init 12 = .ok (.aload_n 0, 1) := by decide +kernel
theorem dX2_init_13 : decode cX2_init 13 = .ok (.bipush 24, 2) := by decide +kernel
theorem dX2_init_15 : decode cX2_init 15 = .ok (.newarray .boolean, 2) := by decide +kernel
theorem dX2_init_17 : decode cX2_init 17 = .ok (.putfield 15, 3) := by decide +kernel
theorem dX2_init_20 : decode cX2_init 20 = .ok (.aload_n 0, 1) := by decide +kernel
theorem dX2_init_21 : decode cX2_init 21 = .ok (.bipush 24, 2) := by decide +kernel
theorem dX2_init_23 : decode cX2_init 23 = .ok (.newarray .int, 2) := by decide +kernel
theorem dX2_init_25 : decode cX2_init 25 = .ok (.putfield 19, 3) := by decide +kernel
theorem dX2_init_28 : decode cX2_init 28 = .ok (.aload_n 0, 1) := by decide +kernel
theorem dX2_init_29 : decode cX2_init 29 = .ok (.bipush 24, 2) := by decide +kernel
theorem dX2_init_31 : decode cX2_init 31 = .ok (.newarray .int, 2) := by decide +kernel
theorem dX2_init_33 : decode cX2_init 33 = .ok (.putfield 23, 3) := by decide +kernel
theorem dX2_init_36 : decode cX2_init 36 = .ok (.aload_n 0, 1) := by decide +kernel
theorem dX2_init_37 : decode cX2_init 37 = .ok (.bipush 24, 2) := by decide +kernel
theorem dX2_init_39 : decode cX2_init 39 = .ok (.newarray .int, 2) := by decide +kernel
theorem dX2_init_41 : decode cX2_init 41 = .ok (.putfield 26, 3) := by decide +kernel
theorem dX2_init_44 : decode cX2_init 44 = .ok (.aload_n 0, 1) := by decide +kernel
theorem dX2_init_45 : decode cX2_init 45 = .ok (.iconst 0, 1) := by decide +kernel
theorem dX2_init_46 : decode cX2_init 46 = .ok (.putfield 29, 3) := by decide +kernel
theorem dX2_init_49 : decode cX2_init 49 = .ok (.aload_n 0, 1) := by decide +kernel
theorem dX2_init_50 : decode cX2_init 50 = .ok (.bipush 6, 2) := by decide +kernel
theorem dX2_init_52 : decode cX2_init 52 = .ok (.newarray .int, 2) := by decide +kernel
theorem dX2_init_54 : decode cX2_init 54 = .ok (.putfield 33, 3) := by decide +kernel
theorem dX2_init_57 : decode cX2_init 57 = .ok (.aload_n 0, 1) := by decide +kernel
theorem dX2_init_58 : decode cX2_init 58 = .ok (.bipush 6, 2) := by decide +kernel
theorem dX2_init_60 : decode cX2_init 60 = .ok (.newarray .int, 2) := by decide +kernel
theorem dX2_init_62 : decode cX2_init 62 = .ok (.putfield 36, 3) := by decide +kernel
theorem dX2_init_65 : decode cX2_init 65 = .ok (.aload_n 0, 1) := by decide +kernel
theorem dX2_init_66 : decode cX2_init 66 = .ok (.bipush 6, 2) := by decide +kernel
theorem dX2_init_68 : decode cX2_init 68 = .ok (.newarray .int, 2) := by decide +kernel
theorem dX2_init_70 : decode cX2_init 70 = .ok (.putfield 39, 3) := by decide +kernel
theorem dX2_init_73 : decode cX2_init 73 = .ok (.aload_n 0, 1) := by decide +kernel
theorem dX2_init_74 : decode cX2_init 74 = .ok (.bipush 6, 2) := by decide +kernel
theorem dX2_init_76 : decode cX2_init 76 = .ok (.newarray .int, 2) := by decide +kernel
theorem dX2_init_78 : decode cX2_init 78 = .ok (.putfield 42, 3) := by decide +kernel
theorem dX2_init_81 : decode cX2_init 81 = .ok (.aload_n 0, 1) := by decide +kernel
theorem dX2_init_82 : decode cX2_init 82 = .ok (.iconst 1, 1) := by decide +kernel
theorem dX2_init_83 : decode cX2_init 83 = .ok (.putfield 45, 3) := by decide +kernel
theorem dX2_init_86 : decode cX2_init 86 = .ok (.aload_n 0, 1) := by decide +kernel
theorem dX2_init_87 : decode cX2_init 87 = .ok (.iconst (-1), 1) := by decide +kernel
theorem dX2_init_88 : decode cX2_init 88 = .ok (.putfield 48, 3) := by decide +kernel
theorem dX2_init_91 : decode cX2_init 91 = .ok (.aload_n 0, 1) := by decide +kernel
theorem dX2_init_92 : decode cX2_init 92 = .ok (.iconst 0, 1) := by decide +kernel
theorem dX2_init_93 : decode cX2_init 93 = .ok (.putfield 51, 3) := by decide +kernel
theorem dX2_init_96 : decode cX2_init 96 = .ok (.aload_n 0, 1) := by decide +kernel
theorem dX2_init_97 : decode cX2_init 97 = .ok (.iconst 5, 1) := by decide +kernel
theorem dX2_init_98 : decode cX2_init 98 = .ok (.newarray .int, 2) := by decide +kernel
theorem dX2_init_100 : decode cX2_init 100 = .ok (.putfield 54, 3) := by decide +kernel
theorem dX2_init_103 : decode cX2_init 103 = .ok (.aload_n 0, 1) := by decide +kernel
theorem dX2_init_104 : decode cX2_init 104 = .ok (.getfield 33, 3) := by decide +kernel
theorem dX2_init_107 : decode cX2_init 107 = .ok (.iconst 0, 1) := by decide +kernel
theorem dX2_init_108 : decode cX2_init 108 = .ok (.iconst (-1), 1) := by decide +kernel
theorem dX2_init_109 : decode cX2_init 109 = .ok (.iastore, 1) := by decide +kernel
theorem dX2_init_110 : decode cX2_init 110 = .ok (.aload_n 0, 1) := by decide +kernel
theorem dX2_init_111 : decode cX2_init 111 = .ok (.getfield 36, 3) := by decide +kernel
theorem dX2_init_114 : decode cX2_init 114 = .ok (.iconst 0, 1) := by decide +kernel
theorem dX2_init_115 : decode cX2_init 115 = .ok (.iconst 1, 1) := by decide +kernel
theorem dX2_init_116 : decode cX2_init 116 = .ok (.iastore, 1) := by decide +kernel
theorem dX2_init_117 : decode cX2_init 117 = .ok (.aload_n 0, 1) := by decide +kernel
theorem dX2_init_118 : decode cX2_init 118 = .ok (.getfield 42, 3) := by decide +kernel
theorem dX2_init_121 : decode cX2_init 121 = .ok (.iconst 0, 1) := by decide +kernel
theorem dX2_init_122 : decode cX2_init 122 = .ok (.iconst (-1), 1) := by decide +kernel
theorem dX2_init_123 : decode cX2_init 123 = .ok (.iastore, 1) := by decide +kernel
theorem dX2_init_124 : decode cX2_init 124 = .ok (.aload_n 0, 1) := by decide +kernel
theorem dX2_init_125 : decode cX2_init 125 = .ok (.getfield 54, 3) := by decide +kernel
theorem dX2_init_128 : decode cX2_init 128 = .ok (.iconst (-1), 1) := by decide +kernel
theorem dX2_init_129 : decode cX2_init 129 = .ok (.invokestatic 57, 3) := by decide +kernel
theorem dX2_init_132 : decode cX2_init 132 = .ok (.return_, 1) := by decide +kernel
theorem dJ7_fill_0 : decode cJ7_fill 0 = .ok (.iconst 0, 1) := by decide +kernel
theorem dJ7_fill_1 : decode cJ7_fill 1 = .ok (.istore_n 2, 1) := by decide +kernel
theorem dJ7_fill_2 : decode cJ7_fill 2 = .ok (.aload_n 0, 1) := by decide +kernel
theorem dJ7_fill_3 : decode cJ7_fill 3 = .ok (.arraylength, 1) := by decide +kernel
theorem dJ7_fill_4 : decode cJ7_fill 4 = .ok (.istore_n 3, 1) := by decide +kernel
theorem dJ7_fill_5 : decode cJ7_fill 5 = .ok (.iload_n 2, 1) := by decide +kernel
theorem dJ7_fill_6 : decode cJ7_fill 6 = .ok (.iload_n 3, 1) := by decide +kernel
theorem dJ7_fill_7 : decode cJ7_fill 7 = .ok (.if_icmp .ge 13, 3) := by decide +kernel
theorem dJ7_fill_10 : decode cJ7_fill 10 = .ok (.aload_n 0, 1) := by decide +kernel
theorem dJ7_fill_11 : decode cJ7_fill 11 = .ok (.iload_n 2, 1) := by decide +kernel
theorem dJ7_fill_12 : decode cJ7_fill 12 = .ok (.iload_n 1, 1) := by decide +kernel
theorem dJ7_fill_13 : decode cJ7_fill 13 = .ok (.iastore, 1) := by decide +kernel
theorem dJ7_fill_14 : decode cJ7_fill 14 = .ok (.iinc 2 1, 3) := by decide +kernel
theorem dJ7_fill_17 : decode cJ7_fill 17 = .ok (.goto (-12), 3) := by decide +kernel
theorem dJ7_fill_20 : decode cJ7_fill 20 = .ok (.return_, 1) := by decide +kernel
theorem dX0_init_0 : decode cX0_init 0 = .ok (.aload_n 0, 1) := by decide +kernel
theorem dX0_init_1 : decode cX0_init 1 = .ok (.invokespecial 3, 3) := by decide +kernel
theorem dX0_init_4 : decode cX0_init 4 = .ok (.aload_n 0, 1) := by decide +kernel
theorem dX0_init_5 : decode cX0_init 5 = .ok (.iconst (-1), 1) := by decide +kernel
theorem dX0_init_6 : decode cX0_init 6 = .ok (.putfield 9, 3) := by decide +kernel
theorem dX0_init_9 : decode cX0_init 9 = .ok (.aload_n 0, 1) := by decide +kernel
theorem dX0_init_10 : decode cX0_init 10 = .ok (.iconst 0, 1) := by decide +kernel
theorem dX0_init_11 : decode cX0_init 11 = .ok (.putfield 15, 3) := by decide +kernel
theorem dX0_init_14 : decode cX0_init 14 = .ok (.aload_n 0, 1) := by decide +kernel
theorem dX0_init_15 : decode cX0_init 15 = .ok (.lconst 0, 1) := by decide +kernel
theorem dX0_init_16 : decode cX0_init 16 = .ok (.putfield 21, 3) := by decide +kernel
theorem dX0_init_19 : decode cX0_init 19 = .ok (.aload_n 0, 1) := by decide +kernel
theorem dX0_init_20 : decode cX0_init 20 = .ok (.iconst (-1), 1) := by decide +kernel
theorem dX0_init_21 : decode cX0_init 21 = .ok (.putfield 25, 3) := by decide +kernel
theorem dX0_init_24 : decode cX0_init 24 = .ok (.return_, 1) := by decide +kernel
theorem dX1_init_0 : decode cX1_init 0 = .ok (.aload_n 0, 1) := by decide +kernel
theorem dX1_init_1 : decode cX1_init 1 = .ok (.invokespecial 3, 3) := by decide +kernel
theorem dX1_init_4 : decode cX1_init 4 = .ok (.aload_n 0, 1) := by decide +kernel
theorem dX1_init_5 : decode cX1_init 5 = .ok (.bipush 12, 2) := by decide +kernel
theorem dX1_init_7 : decode cX1_init 7 = .ok (.newarray .int, 2) := by decide +kernel
theorem dX1_init_9 : decode cX1_init 9 = .ok (.putfield 9, 3) := by decide +kernel
theorem dX1_init_12 : decode cX1_init 12 = .ok (.aload_n 0, 1) := by decide +kernel
theorem dX1_init_13 : decode cX1_init 13 = .ok (.bipush 12, 2) := by decide +kernel
theorem dX1_init_15 : decode cX1_init 15 = .ok (.newarray .int, 2) := by decide +kernel
theorem dX1_init_17 : decode cX1_init 17 = .ok (.putfield 15, 3) := by decide +kernel
theorem dX1_init_20 : decode cX1_init 20 = .ok (.aload_n 0, 1) := by decide +kernel
theorem dX1_init_21 : decode cX1_init 21 = .ok (.iconst 0, 1) := by decide +kernel
theorem dX1_init_22 : decode cX1_init 22 = .ok (.putfield 18, 3) := by decide +kernel
theorem dX1_init_25 : decode cX1_init 25 = .ok (.aload_n 0, 1) := by decide +kernel
theorem dX1_init_26 : decode cX1_init 26 = .ok (.iconst 0, 1) := by decide +kernel
theorem dX1_init_27 : decode cX1_init 27 = .ok (.putfield 22, 3) := by decide +kernel
theorem dX1_init_30 : decode cX1_init 30 = .ok (.aload_n 0, 1) := by decide +kernel
theorem dX1_init_31 : decode cX1_init 31 = .ok (.bipush 13, 2) := by decide +kernel
theorem dX1_init_33 : decode cX1_init 33 = .ok (.bipush 13, 2) := by decide +kernel
theorem dX1_init_35 : decode cX1_init 35 = .ok (.multianewarray 25 2, 4) := by decide +kernel
theorem dX1_init_39 : decode cX1_init 39 = .ok (.putfield 27, 3) := by decide +kernel
theorem dX1_init_42 : decode cX1_init 42 = .ok (.aload_n 0, 1) := by decide +kernel
theorem dX1_init_43 : decode cX1_init 43 = .ok (.bipush 12, 2) := by decide +kernel
theorem dX1_init_45 : decode cX1_init 45 = .ok (.newarray .int, 2) := by decide +kernel
theorem dX1_init_47 : decode cX1_init 47 = .ok (.putfield 30, 3) := by decide +kernel
theorem dX1_init_50 : decode cX1_init 50 = .ok (.aload_n 0, 1) := by decide +kernel
theorem dX1_init_51 : decode cX1_init 51 = .ok (.iconst 0, 1) := by decide +kernel
theorem dX1_init_52 : decode cX1_init 52 = .ok (.putfield 33, 3) := by decide +kernel
theorem dX1_init_55 : decode cX1_init 55 = .ok (.return_, 1) := by decide +kernel
theorem dX3_init_0 : decode cX3_init 0 = .ok (.aload_n 0, 1) := by decide +kernel
theorem dX3_init_1 : decode cX3_init 1 = .ok (.invokespecial 3, 3) := by decide +kernel
theorem dX3_init_4 : decode cX3_init 4 = .ok (.aload_n 0, 1) := by decide +kernel
theorem dX3_init_5 : decode cX3_init 5 = .ok (.new 9, 3) := by decide +kernel
theorem dX3_init_8 : decode cX3_init 8 = .ok (.dup, 1) := by decide +kernel
theorem dX3_init_9 : decode cX3_init 9 = .ok (.invokespecial 11, 3) := by decide +kernel
theorem dX3_init_12 : decode cX3_init 12 = .ok (.putfield 12, 3) := by decide +kernel
theorem dX3_init_15 : decode cX3_init 15 = .ok (.aload_n 0, 1) := by decide +kernel
theorem dX3_init_16 : decode cX3_init 16 = .ok (.new 9, 3) := by decide +kernel
theorem dX3_init_19 : decode cX3_init 19 = .ok (.dup, 1) := by decide +kernel
theorem dX3_init_20 : decode cX3_init 20 = .ok (.invokespecial 11, 3) := by decide +kernel
theorem dX3_init_23 : decode cX3_init 23 = .ok (.putfield 18, 3) := by decide +kernel
theorem dX3_init_26 : decode cX3_init 26 = .ok (.aload_n 0, 1) := by decide +kernel
theorem dX3_init_27 : decode cX3_init 27 = .ok (.lconst 0, 1) := by decide +kernel
theorem dX3_init_28 : decode cX3_init 28 = .ok (.putfield 23, 3) := by decide +kernel
theorem dX3_init_31 : decode cX3_init 31 = .ok (.aload_n 0, 1) := by decide +kernel
theorem dX3_init_32 : decode cX3_init 32 = .ok (.iconst 0, 1) := by decide +kernel
theorem dX3_init_33 : decode cX3_init 33 = .ok (.putfield 27, 3) := by decide +kernel
theorem dX3_init_36 : decode cX3_init 36 = .ok (.aload_n 0, 1) := by decide +kernel
theorem dX3_init_37 : decode cX3_init 37 = .ok (.iconst 0, 1) := by decide +kernel
theorem dX3_init_38 : decode cX3_init 38 = .ok (.putfield 31, 3) := by decide +kernel
theorem dX3_init_41 : decode cX3_init 41 = .ok (.return_, 1) := by decide +kernel
theorem dX5_add_0 : decode cX5_add 0 = .ok (.iload_n 1, 1) := by decide +kernel
theorem dX5_add_1 : decode cX5_add 1 = .ok (.invokestatic 41, 3) := by decide +kernel
theorem dX5_add_4 : decode cX5_add 4 = .ok (.ifCond .eq 10, 3) := by decide +kernel
theorem dX5_add_7 : decode cX5_add 7 = .ok (.iload_n 2, 1) := by decide +kernel
theorem dX5_add_8 : decode cX5_add 8 = .ok (.invokestatic 45, 3) := by decide +kernel
theorem dX5_add_11 : decode cX5_add 11 = .ok (.ifCond .ne 5, 3) := by decide +kernel
theorem dX5_add_14 : decode cX5_add 14 = .ok (.iconst 0, 1) := by decide +kernel
theorem dX5_add_15 : decode cX5_add 15 = .ok (.ireturn, 1) := by decide +kernel
theorem dX5_add_16 : decode cX5_add 16 = .ok (.aload_n 0, 1) := by decide +kernel
theorem dX5_add_17 : decode cX5_add 17 = .ok (.iload_n 1, 1) := by decide +kernel
theorem dX5_add_18 : decode cX5_add 18 = .ok (.iload_n 2, 1) := by decide +kernel
theorem dX5_add_19 : decode cX5_add 19 = .ok (.invokevirtual 48, 3) := by decide +kernel
theorem dX5_add_22 : decode cX5_add 22 = .ok (.astore 5, 2) := by decide +kernel
theorem dX5_add_24 : decode cX5_add 24 = .ok (.aload 5, 2) := by decide +kernel
theorem dX5_add_26 : decode cX5_add 26 = .ok (.invokevirtual 52, 3) := by decide +kernel
theorem dX5_add_29 : decode cX5_add 29 = .ok (.ifCond .ne 10, 3) := by decide +kernel
theorem dX5_add_32 : decode cX5_add 32 = .ok (.lload_n 3, 1) := by decide +kernel
theorem dX5_add_33 : decode cX5_add 33 = .ok (.invokestatic 56, 3) := by decide +kernel
theorem dX5_add_36 : decode cX5_add 36 = .ok (.ifCond .ne 5, 3) := by decide +kernel
theorem dX5_add_39 : decode cX5_add 39 = .ok (.iconst 0, 1) := by decide +kernel
theorem dX5_add_40 : decode cX5_add 40 = .ok (.ireturn, 1) := by decide +kernel
theorem dX5_add_41 : decode cX5_add 41 = .ok (.aload 5, 2) := by decide +kernel
theorem dX5_add_43 : decode cX5_add 43 = .ok (.bipush (-2), 2) := by decide +kernel
theorem dX5_add_45 : decode cX5_add 45 = .ok (.lload_n 3, 1) := by decide +kernel
theorem dX5_add_46 : decode cX5_add 46 = .ok (.invokevirtual 62, 3) := by decide +kernel
theorem dX5_add_49 : decode cX5_add 49 = .ok (.iconst 1, 1) := by decide +kernel
theorem dX5_add_50 : decode cX5_add 50 = .ok (.ireturn, 1) := by decide +kernel
theorem dX5_isClient_0 : decode cX5_isClient 0 = .ok (.iload_n 0, 1) := by decide +kernel
theorem dX5_isClient_1 : decode cX5_isClient 1 = .ok (.ifCond .lt 12, 3) := by decide +kernel
theorem dX5_isClient_4 : decode cX5_isClient 4 = .ok (.iload_n 0, 1) := by decide +kernel
theorem dX5_isClient_5 : decode cX5_isClient 5 = .ok (.iconst 3, 1) := by decide +kernel
theorem dX5_isClient_6 : decode cX5_isClient 6 = .ok (.if_icmp .ge 7, 3) := by decide +kernel
theorem dX5_isClient_9 : decode cX5_isClient 9 = .ok (.iconst 1, 1) := by decide +kernel
theorem dX5_isClient_10 : decode cX5_isClient 10 = .ok (.goto 4, 3) := by decide +kernel
theorem dX5_isClient_13 : decode cX5_isClient 13 = .ok (.iconst 0, 1) := by decide +kernel
theorem dX5_isClient_14 : decode cX5_isClient 14 = .ok (.ireturn, 1) := by decide +kernel
theorem dX5_isFile_0 : decode cX5_isFile 0 = .ok (.iload_n 0, 1) := by decide +kernel
theorem dX5_isFile_1 : decode cX5_isFile 1 = .ok (.ifCond .lt 12, 3) := by decide +kernel
theorem dX5_isFile_4 : decode cX5_isFile 4 = .ok (.iload_n 0, 1) := by decide +kernel
theorem dX5_isFile_5 : decode cX5_isFile 5 = .ok (.iconst 4, 1) := by decide +kernel
theorem dX5_isFile_6 : decode cX5_isFile 6 = .ok (.if_icmp .ge 7, 3) := by decide +kernel
theorem dX5_isFile_9 : decode cX5_isFile 9 = .ok (.iconst 1, 1) := by decide +kernel
theorem dX5_isFile_10 : decode cX5_isFile 10 = .ok (.goto 4, 3) := by decide +kernel
theorem dX5_isFile_13 : decode cX5_isFile 13 = .ok (.iconst 0, 1) := by decide +kernel
theorem dX5_isFile_14 : decode cX5_isFile 14 = .ok (.ireturn, 1) := by decide +kernel
theorem dX5_copyOf_0 : decode cX5_copyOf 0 = .ok (.aload_n 0, 1) := by decide +kernel
theorem dX5_copyOf_1 : decode cX5_copyOf 1 = .ok (.getfield 18, 3) := by decide +kernel
theorem dX5_copyOf_4 : decode cX5_copyOf 4 = .ok (.iload_n 1, 1) := by decide +kernel
theorem dX5_copyOf_5 : decode cX5_copyOf 5 = .ok (.iconst 4, 1) := by decide +kernel
theorem dX5_copyOf_6 : decode cX5_copyOf 6 = .ok (.imul, 1) := by decide +kernel
theorem dX5_copyOf_7 : decode cX5_copyOf 7 = .ok (.iload_n 2, 1) := by decide +kernel
theorem dX5_copyOf_8 : decode cX5_copyOf 8 = .ok (.iadd, 1) := by decide +kernel
theorem dX5_copyOf_9 : decode cX5_copyOf 9 = .ok (.aaload, 1) := by decide +kernel
theorem dX5_copyOf_10 : decode cX5_copyOf 10 = .ok (.areturn, 1) := by decide +kernel
theorem dX0_hasEntry_0 : decode cX0_hasEntry 0 = .ok (.aload_n 0, 1) := by decide +kernel
theorem dX0_hasEntry_1 : decode cX0_hasEntry 1 = .ok (.getfield 9, 3) := by decide +kernel
theorem dX0_hasEntry_4 : decode cX0_hasEntry 4 = .ok (.iconst (-1), 1) := by decide +kernel
theorem dX0_hasEntry_5 : decode cX0_hasEntry 5 = .ok (.if_icmp .eq 7, 3) := by decide +kernel
theorem dX0_hasEntry_8 : decode cX0_hasEntry 8 = .ok (.iconst 1, 1) := by decide +kernel
theorem dX0_hasEntry_9 : decode cX0_hasEntry 9 = .ok (.goto 4, 3) := by decide +kernel
theorem dX0_hasEntry_12 : decode cX0_hasEntry 12 = .ok (.iconst 0, 1) := by decide +kernel
theorem dX0_hasEntry_13 : decode cX0_hasEntry 13 = .ok (.ireturn, 1) := by decide +kernel
theorem dX4_isClean_0 : decode cX4_isClean 0 = .ok (.lload_n 0, 1) := by decide +kernel
theorem dX4_isClean_1 : decode cX4_isClean 1 = .ok (.invokestatic 15, 3) := by decide +kernel
theorem dX4_isClean_4 : decode cX4_isClean 4 = .ok (.ifCond .eq 14, 3) := by decide +kernel
theorem dX4_isClean_7 : decode cX4_isClean 7 = .ok (.lload_n 0, 1) := by decide +kernel
theorem dX4_isClean_8 : decode cX4_isClean 8 = .ok (.invokestatic 19, 3) := by decide +kernel
theorem dX4_isClean_11 : decode cX4_isClean 11 = .ok (.ifCond .ne 7, 3) := by decide +kernel
theorem dX4_isClean_14 : decode cX4_isClean 14 = .ok (.iconst 1, 1) := by decide +kernel
theorem dX4_isClean_15 : decode cX4_isClean 15 = .ok (.goto 4, 3) := by decide +kernel
theorem dX4_isClean_18 : decode cX4_isClean 18 = .ok (.iconst 0, 1) := by decide +kernel
theorem dX4_isClean_19 : decode cX4_isClean 19 = .ok (.ireturn, 1) := by decide +kernel
theorem dX4_isText_0 : decode cX4_isText 0 = .ok (.lload_n 0, 1) := by decide +kernel
theorem dX4_isText_1 : decode cX4_isText 1 = .ok (.lconst 0, 1) := by decide +kernel
theorem dX4_isText_2 : decode cX4_isText 2 = .ok (.lcmp, 1) := by decide +kernel
theorem dX4_isText_3 : decode cX4_isText 3 = .ok (.ifCond .ge 5, 3) := by decide +kernel
theorem dX4_isText_6 : decode cX4_isText 6 = .ok (.iconst 0, 1) := by decide +kernel
theorem dX4_isText_7 : decode cX4_isText 7 = .ok (.ireturn, 1) := by decide +kernel
theorem dX4_isText_8 : decode cX4_isText 8 = .ok (.lload_n 0, 1) := by decide +kernel
theorem dX4_isText_9 : decode cX4_isText 9 = .ok (.lstore_n 2, 1) := by decide +kernel
theorem dX4_isText_10 : decode cX4_isText 10 = .ok (.iconst 0, 1) := by decide +kernel
theorem dX4_isText_11 : decode cX4_isText 11 = .ok (.istore 4, 2) := by decide +kernel
theorem dX4_isText_13 : decode cX4_isText 13 = .ok (.iload 4, 2) := by decide +kernel
theorem dX4_isText_15 : decode cX4_isText 15 = .ok (.bipush 12, 2) := by decide +kernel
theorem dX4_isText_17 : decode cX4_isText 17 = .ok (.if_icmp .ge 46, 3) := by decide +kernel
theorem dX4_isText_20 : decode cX4_isText 20 = .ok (.lload_n 2, 1) := by decide +kernel
theorem dX4_isText_21 : decode cX4_isText 21 = .ok (.lconst 0, 1) := by decide +kernel
theorem dX4_isText_22 : decode cX4_isText 22 = .ok (.lcmp, 1) := by decide +kernel
theorem dX4_isText_23 : decode cX4_isText 23 = .ok (.ifCond .le 40, 3) := by decide +kernel
theorem dX4_isText_26 : decode cX4_isText 26 = .ok (.lload_n 2, 1) := by decide +kernel
theorem dX4_isText_27 : decode cX4_isText 27 = .ok (.ldc2_w 11, 3) := by decide +kernel
theorem dX4_isText_30 : decode cX4_isText 30 = .ok (.lrem, 1) := by decide +kernel
theorem dX4_isText_31 : decode cX4_isText 31 = .ok (.lstore 5, 2) := by decide +kernel
theorem dX4_isText_33 : decode cX4_isText 33 = .ok (.lload 5, 2) := by decide +kernel
theorem dX4_isText_35 : decode cX4_isText 35 = .ok (.lconst 1, 1) := by decide +kernel
theorem dX4_isText_36 : decode cX4_isText 36 = .ok (.lcmp, 1) := by decide +kernel
theorem dX4_isText_37 : decode cX4_isText 37 = .ok (.ifCond .lt 12, 3) := by decide +kernel
theorem dX4_isText_40 : decode cX4_isText 40 = .ok (.lload 5, 2) := by decide +kernel
theorem dX4_isText_42 : decode cX4_isText 42 = .ok (.ldc2_w 13, 3) := by decide +kernel
theorem dX4_isText_45 : decode cX4_isText 45 = .ok (.lcmp, 1) := by decide +kernel
theorem dX4_isText_46 : decode cX4_isText 46 = .ok (.ifCond .le 5, 3) := by decide +kernel
theorem dX4_isText_49 : decode cX4_isText 49 = .ok (.iconst 0, 1) := by decide +kernel
theorem dX4_isText_50 : decode cX4_isText 50 = .ok (.ireturn, 1) := by decide +kernel
theorem dX4_isText_51 : decode cX4_isText 51 = .ok (.lload_n 2, 1) := by decide +kernel
theorem dX4_isText_52 : decode cX4_isText 52 = .ok (.ldc2_w 11, 3) := by decide +kernel
theorem dX4_isText_55 : decode cX4_isText 55 = .ok (.ldiv, 1) := by decide +kernel
theorem dX4_isText_56 : decode cX4_isText 56 = .ok (.lstore_n 2, 1) := by decide +kernel
theorem dX4_isText_57 : decode cX4_isText 57 = .ok (.iinc 4 1, 3) := by decide +kernel
theorem dX4_isText_60 : decode cX4_isText 60 = .ok (.goto (-47), 3) := by decide +kernel
theorem dX4_isText_63 : decode cX4_isText 63 = .ok (.lload_n 2, 1) := by decide +kernel
theorem dX4_isText_64 : decode cX4_isText 64 = .ok (.lconst 0, 1) := by decide +kernel
theorem dX4_isText_65 : decode cX4_isText 65 = .ok (.lcmp, 1) := by decide +kernel
theorem dX4_isText_66 : decode cX4_isText 66 = .ok (.ifCond .ne 7, 3) := by decide +kernel
theorem dX4_isText_69 : decode cX4_isText 69 = .ok (.iconst 1, 1) := by decide +kernel
theorem dX4_isText_70 : decode cX4_isText 70 = .ok (.goto 4, 3) := by decide +kernel
theorem dX4_isText_73 : decode cX4_isText 73 = .ok (.iconst 0, 1) := by decide +kernel
theorem dX4_isText_74 : decode cX4_isText 74 = .ok (.ireturn, 1) := by decide +kernel
theorem dX4_hasMarks_0 : decode cX4_hasMarks 0 = .ok (.lload_n 0, 1) := by decide +kernel
theorem dX4_hasMarks_1 : decode cX4_hasMarks 1 = .ok (.lstore_n 2, 1) := by decide +kernel
theorem dX4_hasMarks_2 : decode cX4_hasMarks 2 = .ok (.iconst 0, 1) := by decide +kernel
theorem dX4_hasMarks_3 : decode cX4_hasMarks 3 = .ok (.istore 4, 2) := by decide +kernel
theorem dX4_hasMarks_5 : decode cX4_hasMarks 5 = .ok (.iload 4, 2) := by decide +kernel
theorem dX4_hasMarks_7 : decode cX4_hasMarks 7 = .ok (.bipush 12, 2) := by decide +kernel
theorem dX4_hasMarks_9 : decode cX4_hasMarks 9 = .ok (.if_icmp .ge 29, 3) := by decide +kernel
theorem dX4_hasMarks_12 : decode cX4_hasMarks 12 = .ok (.lload_n 2, 1) := by decide +kernel
theorem dX4_hasMarks_13 : decode cX4_hasMarks 13 = .ok (.ldc2_w 11, 3) := by decide +kernel
theorem dX4_hasMarks_16 : decode cX4_hasMarks 16 = .ok (.lrem, 1) := by decide +kernel
theorem dX4_hasMarks_17 : decode cX4_hasMarks 17 = .ok (.ldc2_w 22, 3) := by decide +kernel
theorem dX4_hasMarks_20 : decode cX4_hasMarks 20 = .ok (.lcmp, 1) := by decide +kernel
theorem dX4_hasMarks_21 : decode cX4_hasMarks 21 = .ok (.ifCond .lt 5, 3) := by decide +kernel
theorem dX4_hasMarks_24 : decode cX4_hasMarks 24 = .ok (.iconst 1, 1) := by decide +kernel
theorem dX4_hasMarks_25 : decode cX4_hasMarks 25 = .ok (.ireturn, 1) := by decide +kernel
theorem dX4_hasMarks_26 : decode cX4_hasMarks 26 = .ok (.lload_n 2, 1) := by decide +kernel
theorem dX4_hasMarks_27 : decode cX4_hasMarks 27 = .ok (.ldc2_w 11, 3) := by decide +kernel
theorem dX4_hasMarks_30 : decode cX4_hasMarks 30 = .ok (.ldiv, 1) := by decide +kernel
theorem dX4_hasMarks_31 : decode cX4_hasMarks 31 = .ok (.lstore_n 2, 1) := by decide +kernel
theorem dX4_hasMarks_32 : decode cX4_hasMarks 32 = .ok (.iinc 4 1, 3) := by decide +kernel
theorem dX4_hasMarks_35 : decode cX4_hasMarks 35 = .ok (.goto (-30), 3) := by decide +kernel
theorem dX4_hasMarks_38 : decode cX4_hasMarks 38 = .ok (.iconst 0, 1) := by decide +kernel
theorem dX4_hasMarks_39 : decode cX4_hasMarks 39 = .ok (.ireturn, 1) := by decide +kernel
theorem dX0_hold_0 : decode cX0_hold 0 = .ok (.aload_n 0, 1) := by decide +kernel
theorem dX0_hold_1 : decode cX0_hold 1 = .ok (.iload_n 1, 1) := by decide +kernel
theorem dX0_hold_2 : decode cX0_hold 2 = .ok (.putfield 9, 3) := by decide +kernel
theorem dX0_hold_5 : decode cX0_hold 5 = .ok (.aload_n 0, 1) := by decide +kernel
theorem dX0_hold_6 : decode cX0_hold 6 = .ok (.iconst 0, 1) := by decide +kernel
theorem dX0_hold_7 : decode cX0_hold 7 = .ok (.putfield 15, 3) := by decide +kernel
theorem dX0_hold_10 : decode cX0_hold 10 = .ok (.aload_n 0, 1) := by decide +kernel
theorem dX0_hold_11 : decode cX0_hold 11 = .ok (.lload_n 2, 1) := by decide +kernel
theorem dX0_hold_12 : decode cX0_hold 12 = .ok (.putfield 21, 3) := by decide +kernel
theorem dX0_hold_15 : decode cX0_hold 15 = .ok (.return_, 1) := by decide +kernel
theorem dX5_edit_0 : decode cX5_edit 0 = .ok (.iload_n 1, 1) := by decide +kernel
theorem dX5_edit_1 : decode cX5_edit 1 = .ok (.invokestatic 41, 3) := by decide +kernel
theorem dX5_edit_4 : decode cX5_edit 4 = .ok (.ifCond .eq 10, 3) := by decide +kernel
theorem dX5_edit_7 : decode cX5_edit 7 = .ok (.iload_n 2, 1) := by decide +kernel
theorem dX5_edit_8 : decode cX5_edit 8 = .ok (.invokestatic 45, 3) := by decide +kernel
theorem dX5_edit_11 : decode cX5_edit 11 = .ok (.ifCond .ne 5, 3) := by decide +kernel
theorem dX5_edit_14 : decode cX5_edit 14 = .ok (.iconst 0, 1) := by decide +kernel
theorem dX5_edit_15 : decode cX5_edit 15 = .ok (.ireturn, 1) := by decide +kernel
theorem dX5_edit_16 : decode cX5_edit 16 = .ok (.aload_n 0, 1) := by decide +kernel
theorem dX5_edit_17 : decode cX5_edit 17 = .ok (.iload_n 1, 1) := by decide +kernel
theorem dX5_edit_18 : decode cX5_edit 18 = .ok (.iload_n 2, 1) := by decide +kernel
theorem dX5_edit_19 : decode cX5_edit 19 = .ok (.invokevirtual 48, 3) := by decide +kernel
theorem dX5_edit_22 : decode cX5_edit 22 = .ok (.astore 5, 2) := by decide +kernel
theorem dX5_edit_24 : decode cX5_edit 24 = .ok (.aload 5, 2) := by decide +kernel
theorem dX5_edit_26 : decode cX5_edit 26 = .ok (.invokevirtual 66, 3) := by decide +kernel
theorem dX5_edit_29 : decode cX5_edit 29 = .ok (.ifCond .eq 10, 3) := by decide +kernel
theorem dX5_edit_32 : decode cX5_edit 32 = .ok (.lload_n 3, 1) := by decide +kernel
theorem dX5_edit_33 : decode cX5_edit 33 = .ok (.invokestatic 69, 3) := by decide +kernel
theorem dX5_edit_36 : decode cX5_edit 36 = .ok (.ifCond .ne 5, 3) := by decide +kernel
theorem dX5_edit_39 : decode cX5_edit 39 = .ok (.iconst 0, 1) := by decide +kernel
theorem dX5_edit_40 : decode cX5_edit 40 = .ok (.ireturn, 1) := by decide +kernel
theorem dX5_edit_41 : decode cX5_edit 41 = .ok (.aload 5, 2) := by decide +kernel
theorem dX5_edit_43 : decode cX5_edit 43 = .ok (.lload_n 3, 1) := by decide +kernel
theorem dX5_edit_44 : decode cX5_edit 44 = .ok (.putfield 72, 3) := by decide +kernel
theorem dX5_edit_47 : decode cX5_edit 47 = .ok (.iconst 1, 1) := by decide +kernel
theorem dX5_edit_48 : decode cX5_edit 48 = .ok (.ireturn, 1) := by decide +kernel
theorem dX0_hasText_0 : decode cX0_hasText 0 = .ok (.aload_n 0, 1) := by decide +kernel
theorem dX0_hasText_1 : decode cX0_hasText 1 = .ok (.invokevirtual 28, 3) := by decide +kernel
theorem dX0_hasText_4 : decode cX0_hasText 4 = .ok (.ifCond .eq 14, 3) := by decide +kernel
theorem dX0_hasText_7 : decode cX0_hasText 7 = .ok (.aload_n 0, 1) := by decide +kernel
theorem dX0_hasText_8 : decode cX0_hasText 8 = .ok (.getfield 15, 3) := by decide +kernel
theorem dX0_hasText_11 : decode cX0_hasText 11 = .ok (.ifCond .ne 7, 3) := by decide +kernel
theorem dX0_hasText_14 : decode cX0_hasText 14 = .ok (.iconst 1, 1) := by decide +kernel
theorem dX0_hasText_15 : decode cX0_hasText 15 = .ok (.goto 4, 3) := by decide +kernel
theorem dX0_hasText_18 : decode cX0_hasText 18 = .ok (.iconst 0, 1) := by decide +kernel
theorem dX0_hasText_19 : decode cX0_hasText 19 = .ok (.ireturn, 1) := by decide +kernel
theorem dX5_remove_0 : decode cX5_remove 0 = .ok (.iload_n 1, 1) := by decide +kernel
theorem dX5_remove_1 : decode cX5_remove 1 = .ok (.invokestatic 41, 3) := by decide +kernel
theorem dX5_remove_4 : decode cX5_remove 4 = .ok (.ifCond .eq 10, 3) := by decide +kernel
theorem dX5_remove_7 : decode cX5_remove 7 = .ok (.iload_n 2, 1) := by decide +kernel
theorem dX5_remove_8 : decode cX5_remove 8 = .ok (.invokestatic 45, 3) := by decide +kernel
theorem dX5_remove_11 : decode cX5_remove 11 = .ok (.ifCond .ne 5, 3) := by decide +kernel
theorem dX5_remove_14 : decode cX5_remove 14 = .ok (.iconst 0, 1) := by decide +kernel
theorem dX5_remove_15 : decode cX5_remove 15 = .ok (.ireturn, 1) := by decide +kernel
theorem dX5_remove_16 : decode cX5_remove 16 = .ok (.aload_n 0, 1) := by decide +kernel
theorem dX5_remove_17 : decode cX5_remove 17 = .ok (.iload_n 1, 1) := by decide +kernel
theorem dX5_remove_18 : decode cX5_remove 18 = .ok (.iload_n 2, 1) := by decide +kernel
theorem dX5_remove_19 : decode cX5_remove 19 = .ok (.invokevirtual 48, 3) := by decide +kernel
theorem dX5_remove_22 : decode cX5_remove 22 = .ok (.astore_n 3, 1) := by decide +kernel
theorem dX5_remove_23 : decode cX5_remove 23 = .ok (.aload_n 3, 1) := by decide +kernel
theorem dX5_remove_24 : decode cX5_remove 24 = .ok (.invokevirtual 66, 3) := by decide +kernel
theorem dX5_remove_27 : decode cX5_remove 27 = .ok (.ifCond .ne 5, 3) := by decide +kernel
theorem dX5_remove_30 : decode cX5_remove 30 = .ok (.iconst 0, 1) := by decide +kernel
theorem dX5_remove_31 : decode cX5_remove 31 = .ok (.ireturn, 1) := by decide +kernel
theorem dX5_remove_32 : decode cX5_remove 32 = .ok (.aload_n 3, 1) := by decide +kernel
theorem dX5_remove_33 : decode cX5_remove 33 = .ok (.invokevirtual 76, 3) := by decide +kernel
theorem dX5_remove_36 : decode cX5_remove 36 = .ok (.ifCond .eq 10, 3) := by decide +kernel
theorem dX5_remove_39 : decode cX5_remove 39 = .ok (.aload_n 3, 1) := by decide +kernel
theorem dX5_remove_40 : decode cX5_remove 40 = .ok (.invokevirtual 79, 3) := by decide +kernel
theorem dX5_remove_43 : decode cX5_remove 43 = .ok (.goto 7, 3) := by decide +kernel
theorem dX5_remove_46 : decode cX5_remove 46 = .ok (.aload_n 3, 1) := by decide +kernel
theorem dX5_remove_47 : decode cX5_remove 47 = .ok (.invokevirtual 82, 3) := by decide +kernel
theorem dX5_remove_50 : decode cX5_remove 50 = .ok (.iconst 1, 1) := by decide +kernel
theorem dX5_remove_51 : decode cX5_remove 51 = .ok (.ireturn, 1) := by decide +kernel
theorem dX0_hasRevision_0 : decode cX0_hasRevision 0 = .ok (.aload_n 0, 1) := by decide +kernel
theorem dX0_hasRevision_1 : decode cX0_hasRevision 1 = .ok (.getfield 9, 3) := by decide +kernel
theorem dX0_hasRevision_4 : decode cX0_hasRevision 4 = .ok (.ifCond .lt 7, 3) := by decide +kernel
theorem dX0_hasRevision_7 : decode cX0_hasRevision 7 = .ok (.iconst 1, 1) := by decide +kernel
theorem dX0_hasRevision_8 : decode cX0_hasRevision 8 = .ok (.goto 4, 3) := by decide +kernel
theorem dX0_hasRevision_11 : decode cX0_hasRevision 11 = .ok (.iconst 0, 1) := by decide +kernel
theorem dX0_hasRevision_12 : decode cX0_hasRevision 12 = .ok (.ireturn, 1) := by decide +kernel
theorem dX0_markGone_0 : decode cX0_markGone 0 = .ok (.aload_n 0, 1) := by decide +kernel
theorem dX0_markGone_1 : decode cX0_markGone 1 = .ok (.iconst 1, 1) := by decide +kernel
theorem dX0_markGone_2 : decode cX0_markGone 2 = .ok (.putfield 15, 3) := by decide +kernel
theorem dX0_markGone_5 : decode cX0_markGone 5 = .ok (.return_, 1) := by decide +kernel
theorem dX0_drop_0 : decode cX0_drop 0 = .ok (.aload_n 0, 1) := by decide +kernel
theorem dX0_drop_1 : decode cX0_drop 1 = .ok (.iconst (-1), 1) := by decide +kernel
theorem dX0_drop_2 : decode cX0_drop 2 = .ok (.putfield 9, 3) := by decide +kernel
theorem dX0_drop_5 : decode cX0_drop 5 = .ok (.aload_n 0, 1) := by decide +kernel
theorem dX0_drop_6 : decode cX0_drop 6 = .ok (.iconst 0, 1) := by decide +kernel
theorem dX0_drop_7 : decode cX0_drop 7 = .ok (.putfield 15, 3) := by decide +kernel
theorem dX0_drop_10 : decode cX0_drop 10 = .ok (.return_, 1) := by decide +kernel
theorem dX5_commit_0 : decode cX5_commit 0 = .ok (.iload_n 1, 1) := by decide +kernel
theorem dX5_commit_1 : decode cX5_commit 1 = .ok (.invokestatic 41, 3) := by decide +kernel
theorem dX5_commit_4 : decode cX5_commit 4 = .ok (.ifCond .eq 10, 3) := by decide +kernel
theorem dX5_commit_7 : decode cX5_commit 7 = .ok (.iload_n 2, 1) := by decide +kernel
theorem dX5_commit_8 : decode cX5_commit 8 = .ok (.invokestatic 45, 3) := by decide +kernel
theorem dX5_commit_11 : decode cX5_commit 11 = .ok (.ifCond .ne 5, 3) := by decide +kernel
theorem dX5_commit_14 : decode cX5_commit 14 = .ok (.iconst (-1), 1) := by decide +kernel
theorem dX5_commit_15 : decode cX5_commit 15 = .ok (.ireturn, 1) := by decide +kernel
theorem dX5_commit_16 : decode cX5_commit 16 = .ok (.aload_n 0, 1) := by decide +kernel
theorem dX5_commit_17 : decode cX5_commit 17 = .ok (.iload_n 1, 1) := by decide +kernel
theorem dX5_commit_18 : decode cX5_commit 18 = .ok (.iload_n 2, 1) := by decide +kernel
theorem dX5_commit_19 : decode cX5_commit 19 = .ok (.invokevirtual 48, 3) := by decide +kernel
theorem dX5_commit_22 : decode cX5_commit 22 = .ok (.astore_n 3, 1) := by decide +kernel
theorem dX5_commit_23 : decode cX5_commit 23 = .ok (.aload_n 0, 1) := by decide +kernel
theorem dX5_commit_24 : decode cX5_commit 24 = .ok (.getfield 11, 3) := by decide +kernel
theorem dX5_commit_27 : decode cX5_commit 27 = .ok (.iload_n 2, 1) := by decide +kernel
theorem dX5_commit_28 : decode cX5_commit 28 = .ok (.aaload, 1) := by decide +kernel
theorem dX5_commit_29 : decode cX5_commit 29 = .ok (.astore 4, 2) := by decide +kernel
theorem dX5_commit_31 : decode cX5_commit 31 = .ok (.aload_n 0, 1) := by decide +kernel
theorem dX5_commit_32 : decode cX5_commit 32 = .ok (.aload_n 3, 1) := by decide +kernel
theorem dX5_commit_33 : decode cX5_commit 33 = .ok (.aload 4, 2) := by decide +kernel
theorem dX5_commit_35 : decode cX5_commit 35 = .ok (.invokevirtual 85, 3) := by decide +kernel
theorem dX5_commit_38 : decode cX5_commit 38 = .ok (.istore 5, 2) := by decide +kernel
theorem dX5_commit_40 : decode cX5_commit 40 = .ok (.iload 5, 2) := by decide +kernel
theorem dX5_commit_42 : decode cX5_commit 42 = .ok (.ifCond .eq 6, 3) := by decide +kernel
theorem dX5_commit_45 : decode cX5_commit 45 = .ok (.iload 5, 2) := by decide +kernel
theorem dX5_commit_47 : decode cX5_commit 47 = .ok (.ireturn, 1) := by decide +kernel
theorem dX5_commit_48 : decode cX5_commit 48 = .ok (.aload_n 3, 1) := by decide +kernel
theorem dX5_commit_49 : decode cX5_commit 49 = .ok (.getfield 89, 3) := by decide +kernel
theorem dX5_commit_52 : decode cX5_commit 52 = .ok (.ifCond .eq 12, 3) := by decide +kernel
theorem dX5_commit_55 : decode cX5_commit 55 = .ok (.aload_n 3, 1) := by decide +kernel
theorem dX5_commit_56 : decode cX5_commit 56 = .ok (.aload 4, 2) := by decide +kernel
theorem dX5_commit_58 : decode cX5_commit 58 = .ok (.invokestatic 93, 3) := by decide +kernel
theorem dX5_commit_61 : decode cX5_commit 61 = .ok (.goto 9, 3) := by decide +kernel
theorem dX5_commit_64 : decode cX5_commit 64 = .ok (.aload_n 3, 1) := by decide +kernel
theorem dX5_commit_65 : decode cX5_commit 65 = .ok (.aload 4, 2) := by decide +kernel
theorem dX5_commit_67 : decode cX5_commit 67 = .ok (.invokestatic 96, 3) := by decide +kernel
theorem dX5_commit_70 : decode cX5_commit 70 = .ok (.ireturn, 1) := by decide +kernel
theorem dX5_commitRefusal_0 : decode cX5_commitRefusal 0 = .ok (.aload_n 1, 1) := by decide +kernel
theorem dX5_commitRefusal_1 : decode cX5_commitRefusal 1 = .ok (.invokevirtual 52, 3) := by decide +kernel
theorem dX5_commitRefusal_4 : decode cX5_commitRefusal 4 = .ok (.ifCond .ne 5, 3) := by decide +kernel
theorem dX5_commitRefusal_7 : decode cX5_commitRefusal 7 = .ok (.iconst (-1), 1) := by decide +kernel
theorem dX5_commitRefusal_8 : decode cX5_commitRefusal 8 = .ok (.ireturn, 1) := by decide +kernel
theorem dX5_commitRefusal_9 : decode cX5_commitRefusal 9 = .ok (.aload_n 1, 1) := by decide +kernel
theorem dX5_commitRefusal_10 : decode cX5_commitRefusal 10 = .ok (.getfield 114, 3) := by decide +kernel
theorem dX5_commitRefusal_13 : decode cX5_commitRefusal 13 = .ok (.iconst (-1), 1) := by decide +kernel
theorem dX5_commitRefusal_14 : decode cX5_commitRefusal 14 = .ok (.if_icmp .eq 19, 3) := by decide +kernel
theorem dX5_commitRefusal_17 : decode cX5_commitRefusal 17 = .ok (.aload_n 0, 1) := by decide +kernel
theorem dX5_commitRefusal_18 : decode cX5_commitRefusal 18 = .ok (.getfield 23, 3) := by decide +kernel
theorem dX5_commitRefusal_21 : decode cX5_commitRefusal 21 = .ok (.aload_n 1, 1) := by decide +kernel
theorem dX5_commitRefusal_22 : decode cX5_commitRefusal 22 = .ok (.getfield 114, 3) := by decide +kernel
theorem dX5_commitRefusal_25 : decode cX5_commitRefusal 25 = .ok (.iaload, 1) := by decide +kernel
theorem dX5_commitRefusal_26 : decode cX5_commitRefusal 26 = .ok (.iconst 1, 1) := by decide +kernel
theorem dX5_commitRefusal_27 : decode cX5_commitRefusal 27 = .ok (.if_icmp .ne 6, 3) := by decide +kernel
theorem dX5_commitRefusal_30 : decode cX5_commitRefusal 30 = .ok (.bipush (-3), 2) := by decide +kernel
theorem dX5_commitRefusal_32 : decode cX5_commitRefusal 32 = .ok (.ireturn, 1) := by decide +kernel
theorem dX5_commitRefusal_33 : decode cX5_commitRefusal 33 = .ok (.aload_n 0, 1) := by decide +kernel
theorem dX5_commitRefusal_34 : decode cX5_commitRefusal 34 = .ok (.aload_n 1, 1) := by decide +kernel
theorem dX5_commitRefusal_35 : decode cX5_commitRefusal 35 = .ok (.aload_n 2, 1) := by decide +kernel
theorem dX5_commitRefusal_36 : decode cX5_commitRefusal 36 = .ok (.invokevirtual 189, 3) := by decide +kernel
theorem dX5_commitRefusal_39 : decode cX5_commitRefusal 39 = .ok (.ifCond .eq 6, 3) := by decide +kernel
theorem dX5_commitRefusal_42 : decode cX5_commitRefusal 42 = .ok (.bipush (-4), 2) := by decide +kernel
theorem dX5_commitRefusal_44 : decode cX5_commitRefusal 44 = .ok (.ireturn, 1) := by decide +kernel
theorem dX5_commitRefusal_45 : decode cX5_commitRefusal 45 = .ok (.aload_n 1, 1) := by decide +kernel
theorem dX5_commitRefusal_46 : decode cX5_commitRefusal 46 = .ok (.invokevirtual 76, 3) := by decide +kernel
theorem dX5_commitRefusal_49 : decode cX5_commitRefusal 49 = .ok (.ifCond .eq 21, 3) := by decide +kernel
theorem dX5_commitRefusal_52 : decode cX5_commitRefusal 52 = .ok (.aload_n 1, 1) := by decide +kernel
theorem dX5_commitRefusal_53 : decode cX5_commitRefusal 53 = .ok (.getfield 89, 3) := by decide +kernel
theorem dX5_commitRefusal_56 : decode cX5_commitRefusal 56 = .ok (.ifCond .ne 14, 3) := by decide +kernel
theorem dX5_commitRefusal_59 : decode cX5_commitRefusal 59 = .ok (.aload_n 1, 1) := by decide +kernel
theorem dX5_commitRefusal_60 : decode cX5_commitRefusal 60 = .ok (.aload_n 2, 1) := by decide +kernel
theorem dX5_commitRefusal_61 : decode cX5_commitRefusal 61 = .ok (.invokestatic 193, 3) := by decide +kernel
theorem dX5_commitRefusal_64 : decode cX5_commitRefusal 64 = .ok (.ifCond .ne 6, 3) := by decide +kernel
theorem dX5_commitRefusal_67 : decode cX5_commitRefusal 67 = .ok (.bipush (-5), 2) := by decide +kernel
theorem dX5_commitRefusal_69 : decode cX5_commitRefusal 69 = .ok (.ireturn, 1) := by decide +kernel
theorem dX5_commitRefusal_70 : decode cX5_commitRefusal 70 = .ok (.aload_n 1, 1) := by decide +kernel
theorem dX5_commitRefusal_71 : decode cX5_commitRefusal 71 = .ok (.invokevirtual 66, 3) := by decide +kernel
theorem dX5_commitRefusal_74 : decode cX5_commitRefusal 74 = .ok (.ifCond .eq 16, 3) := by decide +kernel
theorem dX5_commitRefusal_77 : decode cX5_commitRefusal 77 = .ok (.aload_n 1, 1) := by decide +kernel
theorem dX5_commitRefusal_78 : decode cX5_commitRefusal 78 = .ok (.getfield 72, 3) := by decide +kernel
theorem dX5_commitRefusal_81 : decode cX5_commitRefusal 81 = .ok (.invokestatic 196, 3) := by decide +kernel
theorem dX5_commitRefusal_84 : decode cX5_commitRefusal 84 = .ok (.ifCond .eq 6, 3) := by decide +kernel
theorem dX5_commitRefusal_87 : decode cX5_commitRefusal 87 = .ok (.bipush (-6), 2) := by decide +kernel
theorem dX5_commitRefusal_89 : decode cX5_commitRefusal 89 = .ok (.ireturn, 1) := by decide +kernel
theorem dX5_commitRefusal_90 : decode cX5_commitRefusal 90 = .ok (.aload_n 1, 1) := by decide +kernel
theorem dX5_commitRefusal_91 : decode cX5_commitRefusal 91 = .ok (.aload_n 2, 1) := by decide +kernel
theorem dX5_commitRefusal_92 : decode cX5_commitRefusal 92 = .ok (.invokestatic 199, 3) := by decide +kernel
theorem dX5_commitRefusal_95 : decode cX5_commitRefusal 95 = .ok (.ifCond .eq 7, 3) := by decide +kernel
theorem dX5_commitRefusal_98 : decode cX5_commitRefusal 98 = .ok (.iconst 0, 1) := by decide +kernel
theorem dX5_commitRefusal_99 : decode cX5_commitRefusal 99 = .ok (.goto 5, 3) := by decide +kernel
theorem dX5_commitRefusal_102 : decode cX5_commitRefusal 102 = .ok (.bipush (-7), 2) := by decide +kernel
theorem dX5_commitRefusal_104 : decode cX5_commitRefusal 104 = .ok (.ireturn, 1) := by decide +kernel
theorem dX5_isStale_0 : decode cX5_isStale 0 = .ok (.aload_n 0, 1) := by decide +kernel
theorem dX5_isStale_1 : decode cX5_isStale 1 = .ok (.aload_n 2, 1) := by decide +kernel
theorem dX5_isStale_2 : decode cX5_isStale 2 = .ok (.aload_n 1, 1) := by decide +kernel
theorem dX5_isStale_3 : decode cX5_isStale 3 = .ok (.getfield 114, 3) := by decide +kernel
theorem dX5_isStale_6 : decode cX5_isStale 6 = .ok (.invokevirtual 106, 3) := by decide +kernel
theorem dX5_isStale_9 : decode cX5_isStale 9 = .ok (.istore_n 3, 1) := by decide +kernel
theorem dX5_isStale_10 : decode cX5_isStale 10 = .ok (.aload_n 1, 1) := by decide +kernel
theorem dX5_isStale_11 : decode cX5_isStale 11 = .ok (.invokevirtual 76, 3) := by decide +kernel
theorem dX5_isStale_14 : decode cX5_isStale 14 = .ok (.ifCond .eq 19, 3) := by decide +kernel
theorem dX5_isStale_17 : decode cX5_isStale 17 = .ok (.aload_n 1, 1) := by decide +kernel
theorem dX5_isStale_18 : decode cX5_isStale 18 = .ok (.getfield 128, 3) := by decide +kernel
theorem dX5_isStale_21 : decode cX5_isStale 21 = .ok (.iload_n 3, 1) := by decide +kernel
theorem dX5_isStale_22 : decode cX5_isStale 22 = .ok (.if_icmp .eq 7, 3) := by decide +kernel
theorem dX5_isStale_25 : decode cX5_isStale 25 = .ok (.iconst 1, 1) := by decide +kernel
theorem dX5_isStale_26 : decode cX5_isStale 26 = .ok (.goto 12, 3) := by decide +kernel
theorem dX5_isStale_29 : decode cX5_isStale 29 = .ok (.iconst 0, 1) := by decide +kernel
theorem dX5_isStale_30 : decode cX5_isStale 30 = .ok (.goto 8, 3) := by decide +kernel
theorem dX5_isStale_33 : decode cX5_isStale 33 = .ok (.aload_n 2, 1) := by decide +kernel
theorem dX5_isStale_34 : decode cX5_isStale 34 = .ok (.iload_n 3, 1) := by decide +kernel
theorem dX5_isStale_35 : decode cX5_isStale 35 = .ok (.invokevirtual 202, 3) := by decide +kernel
theorem dX5_isStale_38 : decode cX5_isStale 38 = .ok (.ireturn, 1) := by decide +kernel
theorem dX5_selectedBy_0 : decode cX5_selectedBy 0 = .ok (.aload_n 1, 1) := by decide +kernel
theorem dX5_selectedBy_1 : decode cX5_selectedBy 1 = .ok (.invokevirtual 135, 3) := by decide +kernel
theorem dX5_selectedBy_4 : decode cX5_selectedBy 4 = .ok (.ifCond .ne 5, 3) := by decide +kernel
theorem dX5_selectedBy_7 : decode cX5_selectedBy 7 = .ok (.iconst (-1), 1) := by decide +kernel
theorem dX5_selectedBy_8 : decode cX5_selectedBy 8 = .ok (.ireturn, 1) := by decide +kernel
theorem dX5_selectedBy_9 : decode cX5_selectedBy 9 = .ok (.iload_n 2, 1) := by decide +kernel
theorem dX5_selectedBy_10 : decode cX5_selectedBy 10 = .ok (.iconst (-1), 1) := by decide +kernel
theorem dX5_selectedBy_11 : decode cX5_selectedBy 11 = .ok (.if_icmp .ne 12, 3) := by decide +kernel
theorem dX5_selectedBy_14 : decode cX5_selectedBy 14 = .ok (.aload_n 1, 1) := by decide +kernel
theorem dX5_selectedBy_15 : decode cX5_selectedBy 15 = .ok (.aload_n 1, 1) := by decide +kernel
theorem dX5_selectedBy_16 : decode cX5_selectedBy 16 = .ok (.getfield 148, 3) := by decide +kernel
theorem dX5_selectedBy_19 : decode cX5_selectedBy 19 = .ok (.invokevirtual 186, 3) := by decide +kernel
theorem dX5_selectedBy_22 : decode cX5_selectedBy 22 = .ok (.ireturn, 1) := by decide +kernel
theorem dX5_selectedBy_23 : decode cX5_selectedBy 23 = .ok (.aload_n 1, 1) := by decide +kernel
theorem dX5_selectedBy_24 : decode cX5_selectedBy 24 = .ok (.getfield 121, 3) := by decide +kernel
theorem dX5_selectedBy_27 : decode cX5_selectedBy 27 = .ok (.iload_n 2, 1) := by decide +kernel
theorem dX5_selectedBy_28 : decode cX5_selectedBy 28 = .ok (.iaload, 1) := by decide +kernel
theorem dX5_selectedBy_29 : decode cX5_selectedBy 29 = .ok (.istore_n 3, 1) := by decide +kernel
theorem dX5_selectedBy_30 : decode cX5_selectedBy 30 = .ok (.iload_n 3, 1) := by decide +kernel
theorem dX5_selectedBy_31 : decode cX5_selectedBy 31 = .ok (.iconst (-1), 1) := by decide +kernel
theorem dX5_selectedBy_32 : decode cX5_selectedBy 32 = .ok (.if_icmp .eq 13, 3) := by decide +kernel
theorem dX5_selectedBy_35 : decode cX5_selectedBy 35 = .ok (.aload_n 0, 1) := by decide +kernel
theorem dX5_selectedBy_36 : decode cX5_selectedBy 36 = .ok (.getfield 23, 3) := by decide +kernel
theorem dX5_selectedBy_39 : decode cX5_selectedBy 39 = .ok (.iload_n 2, 1) := by decide +kernel
theorem dX5_selectedBy_40 : decode cX5_selectedBy 40 = .ok (.iaload, 1) := by decide +kernel
theorem dX5_selectedBy_41 : decode cX5_selectedBy 41 = .ok (.iconst 1, 1) := by decide +kernel
theorem dX5_selectedBy_42 : decode cX5_selectedBy 42 = .ok (.if_icmp .ne 5, 3) := by decide +kernel
theorem dX5_selectedBy_45 : decode cX5_selectedBy 45 = .ok (.iload_n 3, 1) := by decide +kernel
theorem dX5_selectedBy_46 : decode cX5_selectedBy 46 = .ok (.ireturn, 1) := by decide +kernel
theorem dX5_selectedBy_47 : decode cX5_selectedBy 47 = .ok (.aload_n 1, 1) := by decide +kernel
theorem dX5_selectedBy_48 : decode cX5_selectedBy 48 = .ok (.iload_n 3, 1) := by decide +kernel
theorem dX5_selectedBy_49 : decode cX5_selectedBy 49 = .ok (.invokevirtual 186, 3) := by decide +kernel
theorem dX5_selectedBy_52 : decode cX5_selectedBy 52 = .ok (.ireturn, 1) := by decide +kernel
theorem dX2_isThere_0 : decode cX2_isThere 0 = .ok (.aload_n 0, 1) := by decide +kernel
theorem dX2_isThere_1 : decode cX2_isThere 1 = .ok (.getfield 29, 3) := by decide +kernel
theorem dX2_isThere_4 : decode cX2_isThere 4 = .ok (.ifCond .le 7, 3) := by decide +kernel
theorem dX2_isThere_7 : decode cX2_isThere 7 = .ok (.iconst 1, 1) := by decide +kernel
theorem dX2_isThere_8 : decode cX2_isThere 8 = .ok (.goto 4, 3) := by decide +kernel
theorem dX2_isThere_11 : decode cX2_isThere 11 = .ok (.iconst 0, 1) := by decide +kernel
theorem dX2_isThere_12 : decode cX2_isThere 12 = .ok (.ireturn, 1) := by decide +kernel
theorem dX2_tip_0 : decode cX2_tip 0 = .ok (.aload_n 0, 1) := by decide +kernel
theorem dX2_tip_1 : decode cX2_tip 1 = .ok (.getfield 42, 3) := by decide +kernel
theorem dX2_tip_4 : decode cX2_tip 4 = .ok (.iload_n 1, 1) := by decide +kernel
theorem dX2_tip_5 : decode cX2_tip 5 = .ok (.iaload, 1) := by decide +kernel
theorem dX2_tip_6 : decode cX2_tip 6 = .ok (.ireturn, 1) := by decide +kernel
theorem dX2_isAlive_0 : decode cX2_isAlive 0 = .ok (.iload_n 1, 1) := by decide +kernel
theorem dX2_isAlive_1 : decode cX2_isAlive 1 = .ok (.iconst (-1), 1) := by decide +kernel
theorem dX2_isAlive_2 : decode cX2_isAlive 2 = .ok (.if_icmp .eq 16, 3) := by decide +kernel
theorem dX2_isAlive_5 : decode cX2_isAlive 5 = .ok (.aload_n 0, 1) := by decide +kernel
theorem dX2_isAlive_6 : decode cX2_isAlive 6 = .ok (.getfield 15, 3) := by decide +kernel
theorem dX2_isAlive_9 : decode cX2_isAlive 9 = .ok (.iload_n 1, 1) := by decide +kernel
theorem dX2_isAlive_10 : decode cX2_isAlive 10 = .ok (.baload, 1) := by decide +kernel
theorem dX2_isAlive_11 : decode cX2_isAlive 11 = .ok (.ifCond .ne 7, 3) := by decide +kernel
theorem dX2_isAlive_14 : decode cX2_isAlive 14 = .ok (.iconst 1, 1) := by decide +kernel
theorem dX2_isAlive_15 : decode cX2_isAlive 15 = .ok (.goto 4, 3) := by decide +kernel
theorem dX2_isAlive_18 : decode cX2_isAlive 18 = .ok (.iconst 0, 1) := by decide +kernel
theorem dX2_isAlive_19 : decode cX2_isAlive 19 = .ok (.ireturn, 1) := by decide +kernel
theorem dX5_isModified_0 : decode cX5_isModified 0 = .ok (.aload_n 0, 1) := by decide +kernel
theorem dX5_isModified_1 : decode cX5_isModified 1 = .ok (.getfield 72, 3) := by decide +kernel
theorem dX5_isModified_4 : decode cX5_isModified 4 = .ok (.aload_n 1, 1) := by decide +kernel
theorem dX5_isModified_5 : decode cX5_isModified 5 = .ok (.getfield 163, 3) := by decide +kernel
theorem dX5_isModified_8 : decode cX5_isModified 8 = .ok (.aload_n 0, 1) := by decide +kernel
theorem dX5_isModified_9 : decode cX5_isModified 9 = .ok (.getfield 128, 3) := by decide +kernel
theorem dX5_isModified_12 : decode cX5_isModified 12 = .ok (.laload, 1) := by decide +kernel
theorem dX5_isModified_13 : decode cX5_isModified 13 = .ok (.lcmp, 1) := by decide +kernel
theorem dX5_isModified_14 : decode cX5_isModified 14 = .ok (.ifCond .eq 7, 3) := by decide +kernel
theorem dX5_isModified_17 : decode cX5_isModified 17 = .ok (.iconst 1, 1) := by decide +kernel
theorem dX5_isModified_18 : decode cX5_isModified 18 = .ok (.goto 4, 3) := by decide +kernel
theorem dX5_isModified_21 : decode cX5_isModified 21 = .ok (.iconst 0, 1) := by decide +kernel
theorem dX5_isModified_22 : decode cX5_isModified 22 = .ok (.ireturn, 1) := by decide +kernel
theorem dX5_hasRoomToCommit_0 : decode cX5_hasRoomToCommit 0 = .ok (.aload_n 0, 1) := by decide +kernel
theorem dX5_hasRoomToCommit_1 : decode cX5_hasRoomToCommit 1 = .ok (.getfield 114, 3) := by decide +kernel
theorem dX5_hasRoomToCommit_4 : decode cX5_hasRoomToCommit 4 = .ok (.iconst (-1), 1) := by decide +kernel
theorem dX5_hasRoomToCommit_5 : decode cX5_hasRoomToCommit 5 = .ok (.if_icmp .ne 10, 3) := by decide +kernel
theorem dX5_hasRoomToCommit_8 : decode cX5_hasRoomToCommit 8 = .ok (.aload_n 1, 1) := by decide +kernel
theorem dX5_hasRoomToCommit_9 : decode cX5_hasRoomToCommit 9 = .ok (.iconst 1, 1) := by decide +kernel
theorem dX5_hasRoomToCommit_10 : decode cX5_hasRoomToCommit 10 = .ok (.iconst 0, 1) := by decide +kernel
theorem dX5_hasRoomToCommit_11 : decode cX5_hasRoomToCommit 11 = .ok (.invokevirtual 124, 3) := by decide +kernel
theorem dX5_hasRoomToCommit_14 : decode cX5_hasRoomToCommit 14 = .ok (.ireturn, 1) := by decide +kernel
theorem dX5_hasRoomToCommit_15 : decode cX5_hasRoomToCommit 15 = .ok (.aload_n 1, 1) := by decide +kernel
theorem dX5_hasRoomToCommit_16 : decode cX5_hasRoomToCommit 16 = .ok (.invokevirtual 135, 3) := by decide +kernel
theorem dX5_hasRoomToCommit_19 : decode cX5_hasRoomToCommit 19 = .ok (.ifCond .eq 7, 3) := by decide +kernel
theorem dX5_hasRoomToCommit_22 : decode cX5_hasRoomToCommit 22 = .ok (.iconst 1, 1) := by decide +kernel
theorem dX5_hasRoomToCommit_23 : decode cX5_hasRoomToCommit 23 = .ok (.goto 4, 3) := by decide +kernel
theorem dX5_hasRoomToCommit_26 : decode cX5_hasRoomToCommit 26 = .ok (.iconst 2, 1) := by decide +kernel
theorem dX5_hasRoomToCommit_27 : decode cX5_hasRoomToCommit 27 = .ok (.istore_n 2, 1) := by decide +kernel
theorem dX5_hasRoomToCommit_28 : decode cX5_hasRoomToCommit 28 = .ok (.aload_n 1, 1) := by decide +kernel
theorem dX5_hasRoomToCommit_29 : decode cX5_hasRoomToCommit 29 = .ok (.getfield 121, 3) := by decide +kernel
theorem dX5_hasRoomToCommit_32 : decode cX5_hasRoomToCommit 32 = .ok (.aload_n 0, 1) := by decide +kernel
theorem dX5_hasRoomToCommit_33 : decode cX5_hasRoomToCommit 33 = .ok (.getfield 114, 3) := by decide +kernel
theorem dX5_hasRoomToCommit_36 : decode cX5_hasRoomToCommit 36 = .ok (.iaload, 1) := by decide +kernel
theorem dX5_hasRoomToCommit_37 : decode cX5_hasRoomToCommit 37 = .ok (.iconst (-1), 1) := by decide +kernel
theorem dX5_hasRoomToCommit_38 : decode cX5_hasRoomToCommit 38 = .ok (.if_icmp .ne 7, 3) := by decide +kernel
theorem dX5_hasRoomToCommit_41 : decode cX5_hasRoomToCommit 41 = .ok (.iconst 1, 1) := by decide +kernel
theorem dX5_hasRoomToCommit_42 : decode cX5_hasRoomToCommit 42 = .ok (.goto 4, 3) := by decide +kernel
theorem dX5_hasRoomToCommit_45 : decode cX5_hasRoomToCommit 45 = .ok (.iconst 0, 1) := by decide +kernel
theorem dX5_hasRoomToCommit_46 : decode cX5_hasRoomToCommit 46 = .ok (.istore_n 3, 1) := by decide +kernel
theorem dX5_hasRoomToCommit_47 : decode cX5_hasRoomToCommit 47 = .ok (.aload_n 1, 1) := by decide +kernel
theorem dX5_hasRoomToCommit_48 : decode cX5_hasRoomToCommit 48 = .ok (.iload_n 2, 1) := by decide +kernel
theorem dX5_hasRoomToCommit_49 : decode cX5_hasRoomToCommit 49 = .ok (.iload_n 3, 1) := by decide +kernel
theorem dX5_hasRoomToCommit_50 : decode cX5_hasRoomToCommit 50 = .ok (.invokevirtual 124, 3) := by decide +kernel
theorem dX5_hasRoomToCommit_53 : decode cX5_hasRoomToCommit 53 = .ok (.ireturn, 1) := by decide +kernel
theorem dX2_hasRoom_0 : decode cX2_hasRoom 0 = .ok (.aload_n 0, 1) := by decide +kernel
theorem dX2_hasRoom_1 : decode cX2_hasRoom 1 = .ok (.getfield 29, 3) := by decide +kernel
theorem dX2_hasRoom_4 : decode cX2_hasRoom 4 = .ok (.iload_n 1, 1) := by decide +kernel
theorem dX2_hasRoom_5 : decode cX2_hasRoom 5 = .ok (.iadd, 1) := by decide +kernel
theorem dX2_hasRoom_6 : decode cX2_hasRoom 6 = .ok (.bipush 24, 2) := by decide +kernel
theorem dX2_hasRoom_8 : decode cX2_hasRoom 8 = .ok (.if_icmp .gt 18, 3) := by decide +kernel
theorem dX2_hasRoom_11 : decode cX2_hasRoom 11 = .ok (.aload_n 0, 1) := by decide +kernel
theorem dX2_hasRoom_12 : decode cX2_hasRoom 12 = .ok (.getfield 45, 3) := by decide +kernel
theorem dX2_hasRoom_15 : decode cX2_hasRoom 15 = .ok (.iload_n 2, 1) := by decide +kernel
theorem dX2_hasRoom_16 : decode cX2_hasRoom 16 = .ok (.iadd, 1) := by decide +kernel
theorem dX2_hasRoom_17 : decode cX2_hasRoom 17 = .ok (.bipush 6, 2) := by decide +kernel
theorem dX2_hasRoom_19 : decode cX2_hasRoom 19 = .ok (.if_icmp .gt 7, 3) := by decide +kernel
theorem dX2_hasRoom_22 : decode cX2_hasRoom 22 = .ok (.iconst 1, 1) := by decide +kernel
theorem dX2_hasRoom_23 : decode cX2_hasRoom 23 = .ok (.goto 4, 3) := by decide +kernel
theorem dX2_hasRoom_26 : decode cX2_hasRoom 26 = .ok (.iconst 0, 1) := by decide +kernel
theorem dX2_hasRoom_27 : decode cX2_hasRoom 27 = .ok (.ireturn, 1) := by decide +kernel
theorem dX5_commitGone_0 : decode cX5_commitGone 0 = .ok (.aload_n 0, 1) := by decide +kernel
theorem dX5_commitGone_1 : decode cX5_commitGone 1 = .ok (.aload_n 1, 1) := by decide +kernel
theorem dX5_commitGone_2 : decode cX5_commitGone 2 = .ok (.invokestatic 205, 3) := by decide +kernel
theorem dX5_commitGone_5 : decode cX5_commitGone 5 = .ok (.istore_n 2, 1) := by decide +kernel
theorem dX5_commitGone_6 : decode cX5_commitGone 6 = .ok (.aload_n 1, 1) := by decide +kernel
theorem dX5_commitGone_7 : decode cX5_commitGone 7 = .ok (.iload_n 2, 1) := by decide +kernel
theorem dX5_commitGone_8 : decode cX5_commitGone 8 = .ok (.aload_n 1, 1) := by decide +kernel
theorem dX5_commitGone_9 : decode cX5_commitGone 9 = .ok (.getfield 163, 3) := by decide +kernel
theorem dX5_commitGone_12 : decode cX5_commitGone 12 = .ok (.aload_n 0, 1) := by decide +kernel
theorem dX5_commitGone_13 : decode cX5_commitGone 13 = .ok (.getfield 128, 3) := by decide +kernel
theorem dX5_commitGone_16 : decode cX5_commitGone 16 = .ok (.laload, 1) := by decide +kernel
theorem dX5_commitGone_17 : decode cX5_commitGone 17 = .ok (.iconst 1, 1) := by decide +kernel
theorem dX5_commitGone_18 : decode cX5_commitGone 18 = .ok (.invokevirtual 141, 3) := by decide +kernel
theorem dX5_commitGone_21 : decode cX5_commitGone 21 = .ok (.istore_n 3, 1) := by decide +kernel
theorem dX5_commitGone_22 : decode cX5_commitGone 22 = .ok (.aload_n 0, 1) := by decide +kernel
theorem dX5_commitGone_23 : decode cX5_commitGone 23 = .ok (.invokevirtual 82, 3) := by decide +kernel
theorem dX5_commitGone_26 : decode cX5_commitGone 26 = .ok (.iload_n 3, 1) := by decide +kernel
theorem dX5_commitGone_27 : decode cX5_commitGone 27 = .ok (.ireturn, 1) := by decide +kernel
theorem dX5_branchToCommitOn_0 : decode cX5_branchToCommitOn 0 = .ok (.aload_n 0, 1) := by decide +kernel
theorem dX5_branchToCommitOn_1 : decode cX5_branchToCommitOn 1 = .ok (.getfield 114, 3) := by decide +kernel
theorem dX5_branchToCommitOn_4 : decode cX5_branchToCommitOn 4 = .ok (.iconst (-1), 1) := by decide +kernel
theorem dX5_branchToCommitOn_5 : decode cX5_branchToCommitOn 5 = .ok (.if_icmp .ne 10, 3) := by decide +kernel
theorem dX5_branchToCommitOn_8 : decode cX5_branchToCommitOn 8 = .ok (.aload_n 1, 1) := by decide +kernel
theorem dX5_branchToCommitOn_9 : decode cX5_branchToCommitOn 9 = .ok (.iconst 0, 1) := by decide +kernel
theorem dX5_branchToCommitOn_10 : decode cX5_branchToCommitOn 10 = .ok (.putfield 148, 3) := by decide +kernel
theorem dX5_branchToCommitOn_13 : decode cX5_branchToCommitOn 13 = .ok (.iconst 0, 1) := by decide +kernel
theorem dX5_branchToCommitOn_14 : decode cX5_branchToCommitOn 14 = .ok (.ireturn, 1) := by decide +kernel
theorem dX5_branchToCommitOn_15 : decode cX5_branchToCommitOn 15 = .ok (.aload_n 1, 1) := by decide +kernel
theorem dX5_branchToCommitOn_16 : decode cX5_branchToCommitOn 16 = .ok (.invokevirtual 135, 3) := by decide +kernel
theorem dX5_branchToCommitOn_19 : decode cX5_branchToCommitOn 19 = .ok (.ifCond .ne 11, 3) := by decide +kernel
theorem dX5_branchToCommitOn_22 : decode cX5_branchToCommitOn 22 = .ok (.aload_n 1, 1) := by decide +kernel
theorem dX5_branchToCommitOn_23 : decode cX5_branchToCommitOn 23 = .ok (.iconst 0, 1) := by decide +kernel
theorem dX5_branchToCommitOn_24 : decode cX5_branchToCommitOn 24 = .ok (.lconst 0, 1) := by decide +kernel
theorem dX5_branchToCommitOn_25 : decode cX5_branchToCommitOn 25 = .ok (.iconst 1, 1) := by decide +kernel
theorem dX5_branchToCommitOn_26 : decode cX5_branchToCommitOn 26 = .ok (.invokevirtual 141, 3) := by decide +kernel
theorem dX5_branchToCommitOn_29 : decode cX5_branchToCommitOn 29 = .ok (.pop, 1) := by decide +kernel
theorem dX5_branchToCommitOn_30 : decode cX5_branchToCommitOn 30 = .ok (.aload_n 1, 1) := by decide +kernel
theorem dX5_branchToCommitOn_31 : decode cX5_branchToCommitOn 31 = .ok (.getfield 121, 3) := by decide +kernel
theorem dX5_branchToCommitOn_34 : decode cX5_branchToCommitOn 34 = .ok (.aload_n 0, 1) := by decide +kernel
theorem dX5_branchToCommitOn_35 : decode cX5_branchToCommitOn 35 = .ok (.getfield 114, 3) := by decide +kernel
theorem dX5_branchToCommitOn_38 : decode cX5_branchToCommitOn 38 = .ok (.iaload, 1) := by decide +kernel
theorem dX5_branchToCommitOn_39 : decode cX5_branchToCommitOn 39 = .ok (.iconst (-1), 1) := by decide +kernel
theorem dX5_branchToCommitOn_40 : decode cX5_branchToCommitOn 40 = .ok (.if_icmp .ne 21, 3) := by decide +kernel
theorem dX5_branchToCommitOn_43 : decode cX5_branchToCommitOn 43 = .ok (.aload_n 1, 1) := by decide +kernel
theorem dX5_branchToCommitOn_44 : decode cX5_branchToCommitOn 44 = .ok (.getfield 121, 3) := by decide +kernel
theorem dX5_branchToCommitOn_47 : decode cX5_branchToCommitOn 47 = .ok (.aload_n 0, 1) := by decide +kernel
theorem dX5_branchToCommitOn_48 : decode cX5_branchToCommitOn 48 = .ok (.getfield 114, 3) := by decide +kernel
theorem dX5_branchToCommitOn_51 : decode cX5_branchToCommitOn 51 = .ok (.aload_n 1, 1) := by decide +kernel
theorem dX5_branchToCommitOn_52 : decode cX5_branchToCommitOn 52 = .ok (.aload_n 1, 1) := by decide +kernel
theorem dX5_branchToCommitOn_53 : decode cX5_branchToCommitOn 53 = .ok (.iconst 0, 1) := by decide +kernel
theorem dX5_branchToCommitOn_54 : decode cX5_branchToCommitOn 54 = .ok (.invokevirtual 186, 3) := by decide +kernel
theorem dX5_branchToCommitOn_57 : decode cX5_branchToCommitOn 57 = .ok (.invokevirtual 131, 3) := by decide +kernel
theorem dX5_branchToCommitOn_60 : decode cX5_branchToCommitOn 60 = .ok (.iastore, 1) := by decide +kernel
theorem dX5_branchToCommitOn_61 : decode cX5_branchToCommitOn 61 = .ok (.aload_n 1, 1) := by decide +kernel
theorem dX5_branchToCommitOn_62 : decode cX5_branchToCommitOn 62 = .ok (.getfield 121, 3) := by decide +kernel
theorem dX5_branchToCommitOn_65 : decode cX5_branchToCommitOn 65 = .ok (.aload_n 0, 1) := by decide +kernel
theorem dX5_branchToCommitOn_66 : decode cX5_branchToCommitOn 66 = .ok (.getfield 114, 3) := by decide +kernel
theorem dX5_branchToCommitOn_69 : decode cX5_branchToCommitOn 69 = .ok (.iaload, 1) := by decide +kernel
theorem dX5_branchToCommitOn_70 : decode cX5_branchToCommitOn 70 = .ok (.ireturn, 1) := by decide +kernel
theorem dX2_append_0 : decode cX2_append 0 = .ok (.aload_n 0, 1) := by decide +kernel
theorem dX2_append_1 : decode cX2_append 1 = .ok (.getfield 29, 3) := by decide +kernel
theorem dX2_append_4 : decode cX2_append 4 = .ok (.istore 5, 2) := by decide +kernel
theorem dX2_append_6 : decode cX2_append 6 = .ok (.aload_n 0, 1) := by decide +kernel
theorem dX2_append_7 : decode cX2_append 7 = .ok (.dup, 1) := by decide +kernel
theorem dX2_append_8 : decode cX2_append 8 = .ok (.getfield 29, 3) := by decide +kernel
theorem dX2_append_11 : decode cX2_append 11 = .ok (.iconst 1, 1) := by decide +kernel
theorem dX2_append_12 : decode cX2_append 12 = .ok (.iadd, 1) := by decide +kernel
theorem dX2_append_13 : decode cX2_append 13 = .ok (.putfield 29, 3) := by decide +kernel
theorem dX2_append_16 : decode cX2_append 16 = .ok (.aload_n 0, 1) := by decide +kernel
theorem dX2_append_17 : decode cX2_append 17 = .ok (.getfield 39, 3) := by decide +kernel
theorem dX2_append_20 : decode cX2_append 20 = .ok (.iload_n 1, 1) := by decide +kernel
theorem dX2_append_21 : decode cX2_append 21 = .ok (.dup2, 1) := by decide +kernel
theorem dX2_append_22 : decode cX2_append 22 = .ok (.iaload, 1) := by decide +kernel
theorem dX2_append_23 : decode cX2_append 23 = .ok (.iconst 1, 1) := by decide +kernel
theorem dX2_append_24 : decode cX2_append 24 = .ok (.iadd, 1) := by decide +kernel
theorem dX2_append_25 : decode cX2_append 25 = .ok (.iastore, 1) := by decide +kernel
theorem dX2_append_26 : decode cX2_append 26 = .ok (.aload_n 0, 1) := by decide +kernel
theorem dX2_append_27 : decode cX2_append 27 = .ok (.getfield 9, 3) := by decide +kernel
theorem dX2_append_30 : decode cX2_append 30 = .ok (.iload 5, 2) := by decide +kernel
theorem dX2_append_32 : decode cX2_append 32 = .ok (.lload_n 2, 1) := by decide +kernel
theorem dX2_append_33 : decode cX2_append 33 = .ok (.lastore, 1) := by decide +kernel
theorem dX2_append_34 : decode cX2_append 34 = .ok (.aload_n 0, 1) := by decide +kernel
theorem dX2_append_35 : decode cX2_append 35 = .ok (.getfield 15, 3) := by decide +kernel
theorem dX2_append_38 : decode cX2_append 38 = .ok (.iload 5, 2) := by decide +kernel
theorem dX2_append_40 : decode cX2_append 40 = .ok (.iload 4, 2) := by decide +kernel
theorem dX2_append_42 : decode cX2_append 42 = .ok (.bastore, 1) := by decide +kernel
theorem dX2_append_43 : decode cX2_append 43 = .ok (.aload_n 0, 1) := by decide +kernel
theorem dX2_append_44 : decode cX2_append 44 = .ok (.getfield 19, 3) := by decide +kernel
theorem dX2_append_47 : decode cX2_append 47 = .ok (.iload 5, 2) := by decide +kernel
theorem dX2_append_49 : decode cX2_append 49 = .ok (.iload_n 1, 1) := by decide +kernel
theorem dX2_append_50 : decode cX2_append 50 = .ok (.iastore, 1) := by decide +kernel
theorem dX2_append_51 : decode cX2_append 51 = .ok (.aload_n 0, 1) := by decide +kernel
theorem dX2_append_52 : decode cX2_append 52 = .ok (.getfield 23, 3) := by decide +kernel
theorem dX2_append_55 : decode cX2_append 55 = .ok (.iload 5, 2) := by decide +kernel
theorem dX2_append_57 : decode cX2_append 57 = .ok (.aload_n 0, 1) := by decide +kernel
theorem dX2_append_58 : decode cX2_append 58 = .ok (.getfield 39, 3) := by decide +kernel
theorem dX2_append_61 : decode cX2_append 61 = .ok (.iload_n 1, 1) := by decide +kernel
theorem dX2_append_62 : decode cX2_append 62 = .ok (.iaload, 1) := by decide +kernel
theorem dX2_append_63 : decode cX2_append 63 = .ok (.iastore, 1) := by decide +kernel
theorem dX2_append_64 : decode cX2_append 64 = .ok (.aload_n 0, 1) := by decide +kernel
theorem dX2_append_65 : decode cX2_append 65 = .ok (.getfield 26, 3) := by decide +kernel
theorem dX2_append_68 : decode cX2_append 68 = .ok (.iload 5, 2) := by decide +kernel
theorem dX2_append_70 : decode cX2_append 70 = .ok (.aload_n 0, 1) := by decide +kernel
theorem dX2_append_71 : decode cX2_append 71 = .ok (.getfield 42, 3) := by decide +kernel
theorem dX2_append_74 : decode cX2_append 74 = .ok (.iload_n 1, 1) := by decide +kernel
theorem dX2_append_75 : decode cX2_append 75 = .ok (.iaload, 1) := by decide +kernel
theorem dX2_append_76 : decode cX2_append 76 = .ok (.iastore, 1) := by decide +kernel
theorem dX2_append_77 : decode cX2_append 77 = .ok (.aload_n 0, 1) := by decide +kernel
theorem dX2_append_78 : decode cX2_append 78 = .ok (.getfield 42, 3) := by decide +kernel
theorem dX2_append_81 : decode cX2_append 81 = .ok (.iload_n 1, 1) := by decide +kernel
theorem dX2_append_82 : decode cX2_append 82 = .ok (.iload 5, 2) := by decide +kernel
theorem dX2_append_84 : decode cX2_append 84 = .ok (.iastore, 1) := by decide +kernel
theorem dX2_append_85 : decode cX2_append 85 = .ok (.iload 5, 2) := by decide +kernel
theorem dX2_append_87 : decode cX2_append 87 = .ok (.ireturn, 1) := by decide +kernel
theorem dX2_openBranch_0 : decode cX2_openBranch 0 = .ok (.aload_n 0, 1) := by decide +kernel
theorem dX2_openBranch_1 : decode cX2_openBranch 1 = .ok (.iload_n 1, 1) := by decide +kernel
theorem dX2_openBranch_2 : decode cX2_openBranch 2 = .ok (.aload_n 0, 1) := by decide +kernel
theorem dX2_openBranch_3 : decode cX2_openBranch 3 = .ok (.iload_n 1, 1) := by decide +kernel
theorem dX2_openBranch_4 : decode cX2_openBranch 4 = .ok (.invokevirtual 63, 3) := by decide +kernel
theorem dX2_openBranch_7 : decode cX2_openBranch 7 = .ok (.invokevirtual 67, 3) := by decide +kernel
theorem dX2_openBranch_10 : decode cX2_openBranch 10 = .ok (.ireturn, 1) := by decide +kernel
theorem dX2_freeMagic_0 : decode cX2_freeMagic 0 = .ok (.iconst 2, 1) := by decide +kernel
theorem dX2_freeMagic_1 : decode cX2_freeMagic 1 = .ok (.istore_n 2, 1) := by decide +kernel
theorem dX2_freeMagic_2 : decode cX2_freeMagic 2 = .ok (.iconst 1, 1) := by decide +kernel
theorem dX2_freeMagic_3 : decode cX2_freeMagic 3 = .ok (.istore_n 3, 1) := by decide +kernel
theorem dX2_freeMagic_4 : decode cX2_freeMagic 4 = .ok (.iload_n 3, 1) := by decide +kernel
theorem dX2_freeMagic_5 : decode cX2_freeMagic 5 = .ok (.aload_n 0, 1) := by decide +kernel
theorem dX2_freeMagic_6 : decode cX2_freeMagic 6 = .ok (.getfield 45, 3) := by decide +kernel
theorem dX2_freeMagic_9 : decode cX2_freeMagic 9 = .ok (.if_icmp .ge 30, 3) := by decide +kernel
theorem dX2_freeMagic_12 : decode cX2_freeMagic 12 = .ok (.iload_n 3, 1) := by decide +kernel
theorem dX2_freeMagic_13 : decode cX2_freeMagic 13 = .ok (.aload_n 0, 1) := by decide +kernel
theorem dX2_freeMagic_14 : decode cX2_freeMagic 14 = .ok (.getfield 48, 3) := by decide +kernel
theorem dX2_freeMagic_17 : decode cX2_freeMagic 17 = .ok (.if_icmp .eq 16, 3) := by decide +kernel
theorem dX2_freeMagic_20 : decode cX2_freeMagic 20 = .ok (.aload_n 0, 1) := by decide +kernel
theorem dX2_freeMagic_21 : decode cX2_freeMagic 21 = .ok (.getfield 33, 3) := by decide +kernel
theorem dX2_freeMagic_24 : decode cX2_freeMagic 24 = .ok (.iload_n 3, 1) := by decide +kernel
theorem dX2_freeMagic_25 : decode cX2_freeMagic 25 = .ok (.iaload, 1) := by decide +kernel
theorem dX2_freeMagic_26 : decode cX2_freeMagic 26 = .ok (.iload_n 1, 1) := by decide +kernel
theorem dX2_freeMagic_27 : decode cX2_freeMagic 27 = .ok (.if_icmp .ne 6, 3) := by decide +kernel
theorem dX2_freeMagic_30 : decode cX2_freeMagic 30 = .ok (.iinc 2 2, 3) := by decide +kernel
theorem dX2_freeMagic_33 : decode cX2_freeMagic 33 = .ok (.iinc 3 1, 3) := by decide +kernel
theorem dX2_freeMagic_36 : decode cX2_freeMagic 36 = .ok (.goto (-32), 3) := by decide +kernel
theorem dX2_freeMagic_39 : decode cX2_freeMagic 39 = .ok (.iload_n 2, 1) := by decide +kernel
theorem dX2_freeMagic_40 : decode cX2_freeMagic 40 = .ok (.ireturn, 1) := by decide +kernel
