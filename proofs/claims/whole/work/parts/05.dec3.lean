/-! what the bytes say -/
theorem dX6_revise_0 : decode cX6_revise 0 = .ok (.aload_n 0, 1) := by decide +kernel
theorem dX6_revise_1 : decode cX6_revise 1 = .ok (.iload_n 1, 1) := by decide +kernel
theorem dX6_revise_2 : decode cX6_revise 2 = .ok (.iload_n 2, 1) := by decide +kernel
theorem dX6_revise_3 : decode cX6_revise 3 = .ok (.invokevirtual 116, 3) := by decide +kernel
theorem dX6_revise_6 : decode cX6_revise 6 = .ok (.istore 6, 2) := by decide +kernel
theorem dX6_revise_8 : decode cX6_revise 8 = .ok (.bipush 24, 2) := by decide +kernel
theorem dX6_revise_10 : decode cX6_revise 10 = .ok (.iload_n 1, 1) := by decide +kernel
theorem dX6_revise_11 : decode cX6_revise 11 = .ok (.imul, 1) := by decide +kernel
theorem dX6_revise_12 : decode cX6_revise 12 = .ok (.aload_n 0, 1) := by decide +kernel
theorem dX6_revise_13 : decode cX6_revise 13 = .ok (.getfield 7, 3) := by decide +kernel
theorem dX6_revise_16 : decode cX6_revise 16 = .ok (.iload_n 1, 1) := by decide +kernel
theorem dX6_revise_17 : decode cX6_revise 17 = .ok (.iaload, 1) := by decide +kernel
theorem dX6_revise_18 : decode cX6_revise 18 = .ok (.iadd, 1) := by decide +kernel
theorem dX6_revise_19 : decode cX6_revise 19 = .ok (.istore 7, 2) := by decide +kernel
theorem dX6_revise_21 : decode cX6_revise 21 = .ok (.aload_n 0, 1) := by decide +kernel
theorem dX6_revise_22 : decode cX6_revise 22 = .ok (.getfield 13, 3) := by decide +kernel
theorem dX6_revise_25 : decode cX6_revise 25 = .ok (.iload 7, 2) := by decide +kernel
theorem dX6_revise_27 : decode cX6_revise 27 = .ok (.lload_n 3, 1) := by decide +kernel
theorem dX6_revise_28 : decode cX6_revise 28 = .ok (.lastore, 1) := by decide +kernel
theorem dX6_revise_29 : decode cX6_revise 29 = .ok (.aload_n 0, 1) := by decide +kernel
theorem dX6_revise_30 : decode cX6_revise 30 = .ok (.getfield 17, 3) := by decide +kernel
theorem dX6_revise_33 : decode cX6_revise 33 = .ok (.iload 7, 2) := by decide +kernel
theorem dX6_revise_35 : decode cX6_revise 35 = .ok (.iload 5, 2) := by decide +kernel
theorem dX6_revise_37 : decode cX6_revise 37 = .ok (.bastore, 1) := by decide +kernel
theorem dX6_revise_38 : decode cX6_revise 38 = .ok (.aload_n 0, 1) := by decide +kernel
theorem dX6_revise_39 : decode cX6_revise 39 = .ok (.getfield 21, 3) := by decide +kernel
theorem dX6_revise_42 : decode cX6_revise 42 = .ok (.iload 7, 2) := by decide +kernel
theorem dX6_revise_44 : decode cX6_revise 44 = .ok (.iload_n 2, 1) := by decide +kernel
theorem dX6_revise_45 : decode cX6_revise 45 = .ok (.iastore, 1) := by decide +kernel
theorem dX6_revise_46 : decode cX6_revise 46 = .ok (.aload_n 0, 1) := by decide +kernel
theorem dX6_revise_47 : decode cX6_revise 47 = .ok (.getfield 24, 3) := by decide +kernel
theorem dX6_revise_50 : decode cX6_revise 50 = .ok (.iload 7, 2) := by decide +kernel
theorem dX6_revise_52 : decode cX6_revise 52 = .ok (.iload 6, 2) := by decide +kernel
theorem dX6_revise_54 : decode cX6_revise 54 = .ok (.ifCond .ge 7, 3) := by decide +kernel
theorem dX6_revise_57 : decode cX6_revise 57 = .ok (.iconst 1, 1) := by decide +kernel
theorem dX6_revise_58 : decode cX6_revise 58 = .ok (.goto 17, 3) := by decide +kernel
theorem dX6_revise_61 : decode cX6_revise 61 = .ok (.aload_n 0, 1) := by decide +kernel
theorem dX6_revise_62 : decode cX6_revise 62 = .ok (.getfield 24, 3) := by decide +kernel
theorem dX6_revise_65 : decode cX6_revise 65 = .ok (.bipush 24, 2) := by decide +kernel
theorem dX6_revise_67 : decode cX6_revise 67 = .ok (.iload_n 1, 1) := by decide +kernel
theorem dX6_revise_68 : decode cX6_revise 68 = .ok (.imul, 1) := by decide +kernel
theorem dX6_revise_69 : decode cX6_revise 69 = .ok (.iload 6, 2) := by decide +kernel
theorem dX6_revise_71 : decode cX6_revise 71 = .ok (.iadd, 1) := by decide +kernel
theorem dX6_revise_72 : decode cX6_revise 72 = .ok (.iaload, 1) := by decide +kernel
theorem dX6_revise_73 : decode cX6_revise 73 = .ok (.iconst 1, 1) := by decide +kernel
theorem dX6_revise_74 : decode cX6_revise 74 = .ok (.iadd, 1) := by decide +kernel
theorem dX6_revise_75 : decode cX6_revise 75 = .ok (.iastore, 1) := by decide +kernel
theorem dX6_revise_76 : decode cX6_revise 76 = .ok (.aload_n 0, 1) := by decide +kernel
theorem dX6_revise_77 : decode cX6_revise 77 = .ok (.getfield 7, 3) := by decide +kernel
theorem dX6_revise_80 : decode cX6_revise 80 = .ok (.iload_n 1, 1) := by decide +kernel
theorem dX6_revise_81 : decode cX6_revise 81 = .ok (.dup2, 1) := by decide +kernel
theorem dX6_revise_82 : decode cX6_revise 82 = .ok (.iaload, 1) := by decide +kernel
theorem dX6_revise_83 : decode cX6_revise 83 = .ok (.iconst 1, 1) := by decide +kernel
theorem dX6_revise_84 : decode cX6_revise 84 = .ok (.iadd, 1) := by decide +kernel
theorem dX6_revise_85 : decode cX6_revise 85 = .ok (.iastore, 1) := by decide +kernel
theorem dX6_revise_86 : decode cX6_revise 86 = .ok (.aload_n 0, 1) := by decide +kernel
theorem dX6_revise_87 : decode cX6_revise 87 = .ok (.getfield 7, 3) := by decide +kernel
theorem dX6_revise_90 : decode cX6_revise 90 = .ok (.iload_n 1, 1) := by decide +kernel
theorem dX6_revise_91 : decode cX6_revise 91 = .ok (.iaload, 1) := by decide +kernel
theorem dX6_revise_92 : decode cX6_revise 92 = .ok (.iconst 1, 1) := by decide +kernel
theorem dX6_revise_93 : decode cX6_revise 93 = .ok (.isub, 1) := by decide +kernel
theorem dX6_revise_94 : decode cX6_revise 94 = .ok (.ireturn, 1) := by decide +kernel
theorem dX6_freeMagic_0 : decode cX6_freeMagic 0 = .ok (.iconst 2, 1) := by decide +kernel
theorem dX6_freeMagic_1 : decode cX6_freeMagic 1 = .ok (.istore_n 3, 1) := by decide +kernel
theorem dX6_freeMagic_2 : decode cX6_freeMagic 2 = .ok (.iconst 0, 1) := by decide +kernel
theorem dX6_freeMagic_3 : decode cX6_freeMagic 3 = .ok (.istore 4, 2) := by decide +kernel
theorem dX6_freeMagic_5 : decode cX6_freeMagic 5 = .ok (.iload 4, 2) := by decide +kernel
theorem dX6_freeMagic_7 : decode cX6_freeMagic 7 = .ok (.bipush 6, 2) := by decide +kernel
theorem dX6_freeMagic_9 : decode cX6_freeMagic 9 = .ok (.if_icmp .ge 69, 3) := by decide +kernel
theorem dX6_freeMagic_12 : decode cX6_freeMagic 12 = .ok (.iconst 1, 1) := by decide +kernel
theorem dX6_freeMagic_13 : decode cX6_freeMagic 13 = .ok (.istore 5, 2) := by decide +kernel
theorem dX6_freeMagic_15 : decode cX6_freeMagic 15 = .ok (.iload 5, 2) := by decide +kernel
theorem dX6_freeMagic_17 : decode cX6_freeMagic 17 = .ok (.aload_n 0, 1) := by decide +kernel
theorem dX6_freeMagic_18 : decode cX6_freeMagic 18 = .ok (.getfield 27, 3) := by decide +kernel
theorem dX6_freeMagic_21 : decode cX6_freeMagic 21 = .ok (.iload_n 1, 1) := by decide +kernel
theorem dX6_freeMagic_22 : decode cX6_freeMagic 22 = .ok (.iaload, 1) := by decide +kernel
theorem dX6_freeMagic_23 : decode cX6_freeMagic 23 = .ok (.if_icmp .gt 49, 3) := by decide +kernel
theorem dX6_freeMagic_26 : decode cX6_freeMagic 26 = .ok (.aload_n 0, 1) := by decide +kernel
theorem dX6_freeMagic_27 : decode cX6_freeMagic 27 = .ok (.getfield 30, 3) := by decide +kernel
theorem dX6_freeMagic_30 : decode cX6_freeMagic 30 = .ok (.bipush 6, 2) := by decide +kernel
theorem dX6_freeMagic_32 : decode cX6_freeMagic 32 = .ok (.iload_n 1, 1) := by decide +kernel
theorem dX6_freeMagic_33 : decode cX6_freeMagic 33 = .ok (.imul, 1) := by decide +kernel
theorem dX6_freeMagic_34 : decode cX6_freeMagic 34 = .ok (.iload 5, 2) := by decide +kernel
theorem dX6_freeMagic_36 : decode cX6_freeMagic 36 = .ok (.iadd, 1) := by decide +kernel
theorem dX6_freeMagic_37 : decode cX6_freeMagic 37 = .ok (.iaload, 1) := by decide +kernel
theorem dX6_freeMagic_38 : decode cX6_freeMagic 38 = .ok (.iload_n 2, 1) := by decide +kernel
theorem dX6_freeMagic_39 : decode cX6_freeMagic 39 = .ok (.if_icmp .ne 25, 3) := by decide +kernel
theorem dX6_freeMagic_42 : decode cX6_freeMagic 42 = .ok (.aload_n 0, 1) := by decide +kernel
theorem dX6_freeMagic_43 : decode cX6_freeMagic 43 = .ok (.getfield 33, 3) := by decide +kernel
theorem dX6_freeMagic_46 : decode cX6_freeMagic 46 = .ok (.bipush 6, 2) := by decide +kernel
theorem dX6_freeMagic_48 : decode cX6_freeMagic 48 = .ok (.iload_n 1, 1) := by decide +kernel
theorem dX6_freeMagic_49 : decode cX6_freeMagic 49 = .ok (.imul, 1) := by decide +kernel
theorem dX6_freeMagic_50 : decode cX6_freeMagic 50 = .ok (.iload 5, 2) := by decide +kernel
theorem dX6_freeMagic_52 : decode cX6_freeMagic 52 = .ok (.iadd, 1) := by decide +kernel
theorem dX6_freeMagic_53 : decode cX6_freeMagic 53 = .ok (.iaload, 1) := by decide +kernel
theorem dX6_freeMagic_54 : decode cX6_freeMagic 54 = .ok (.iload_n 3, 1) := by decide +kernel
theorem dX6_freeMagic_55 : decode cX6_freeMagic 55 = .ok (.if_icmp .ne 9, 3) := by decide +kernel
theorem dX6_freeMagic_58 : decode cX6_freeMagic 58 = .ok (.iload_n 3, 1) := by decide +kernel
theorem dX6_freeMagic_59 : decode cX6_freeMagic 59 = .ok (.iconst 2, 1) := by decide +kernel
theorem dX6_freeMagic_60 : decode cX6_freeMagic 60 = .ok (.iadd, 1) := by decide +kernel
theorem dX6_freeMagic_61 : decode cX6_freeMagic 61 = .ok (.goto 4, 3) := by decide +kernel
theorem dX6_freeMagic_64 : decode cX6_freeMagic 64 = .ok (.iload_n 3, 1) := by decide +kernel
theorem dX6_freeMagic_65 : decode cX6_freeMagic 65 = .ok (.istore_n 3, 1) := by decide +kernel
theorem dX6_freeMagic_66 : decode cX6_freeMagic 66 = .ok (.iinc 5 1, 3) := by decide +kernel
theorem dX6_freeMagic_69 : decode cX6_freeMagic 69 = .ok (.goto (-54), 3) := by decide +kernel
theorem dX6_freeMagic_72 : decode cX6_freeMagic 72 = .ok (.iinc 4 1, 3) := by decide +kernel
theorem dX6_freeMagic_75 : decode cX6_freeMagic 75 = .ok (.goto (-70), 3) := by decide +kernel
theorem dX6_freeMagic_78 : decode cX6_freeMagic 78 = .ok (.iload_n 3, 1) := by decide +kernel
theorem dX6_freeMagic_79 : decode cX6_freeMagic 79 = .ok (.ireturn, 1) := by decide +kernel
theorem dX6_branchAt_0 : decode cX6_branchAt 0 = .ok (.aload_n 0, 1) := by decide +kernel
theorem dX6_branchAt_1 : decode cX6_branchAt 1 = .ok (.getfield 27, 3) := by decide +kernel
theorem dX6_branchAt_4 : decode cX6_branchAt 4 = .ok (.iload_n 1, 1) := by decide +kernel
theorem dX6_branchAt_5 : decode cX6_branchAt 5 = .ok (.iaload, 1) := by decide +kernel
theorem dX6_branchAt_6 : decode cX6_branchAt 6 = .ok (.iconst 1, 1) := by decide +kernel
theorem dX6_branchAt_7 : decode cX6_branchAt 7 = .ok (.iadd, 1) := by decide +kernel
theorem dX6_branchAt_8 : decode cX6_branchAt 8 = .ok (.istore 4, 2) := by decide +kernel
theorem dX6_branchAt_10 : decode cX6_branchAt 10 = .ok (.aload_n 0, 1) := by decide +kernel
theorem dX6_branchAt_11 : decode cX6_branchAt 11 = .ok (.getfield 30, 3) := by decide +kernel
theorem dX6_branchAt_14 : decode cX6_branchAt 14 = .ok (.bipush 6, 2) := by decide +kernel
theorem dX6_branchAt_16 : decode cX6_branchAt 16 = .ok (.iload_n 1, 1) := by decide +kernel
theorem dX6_branchAt_17 : decode cX6_branchAt 17 = .ok (.imul, 1) := by decide +kernel
theorem dX6_branchAt_18 : decode cX6_branchAt 18 = .ok (.iload 4, 2) := by decide +kernel
theorem dX6_branchAt_20 : decode cX6_branchAt 20 = .ok (.iadd, 1) := by decide +kernel
theorem dX6_branchAt_21 : decode cX6_branchAt 21 = .ok (.iload_n 2, 1) := by decide +kernel
theorem dX6_branchAt_22 : decode cX6_branchAt 22 = .ok (.iastore, 1) := by decide +kernel
theorem dX6_branchAt_23 : decode cX6_branchAt 23 = .ok (.aload_n 0, 1) := by decide +kernel
theorem dX6_branchAt_24 : decode cX6_branchAt 24 = .ok (.getfield 33, 3) := by decide +kernel
theorem dX6_branchAt_27 : decode cX6_branchAt 27 = .ok (.bipush 6, 2) := by decide +kernel
theorem dX6_branchAt_29 : decode cX6_branchAt 29 = .ok (.iload_n 1, 1) := by decide +kernel
theorem dX6_branchAt_30 : decode cX6_branchAt 30 = .ok (.imul, 1) := by decide +kernel
theorem dX6_branchAt_31 : decode cX6_branchAt 31 = .ok (.iload 4, 2) := by decide +kernel
theorem dX6_branchAt_33 : decode cX6_branchAt 33 = .ok (.iadd, 1) := by decide +kernel
theorem dX6_branchAt_34 : decode cX6_branchAt 34 = .ok (.iload_n 3, 1) := by decide +kernel
theorem dX6_branchAt_35 : decode cX6_branchAt 35 = .ok (.iastore, 1) := by decide +kernel
theorem dX6_branchAt_36 : decode cX6_branchAt 36 = .ok (.aload_n 0, 1) := by decide +kernel
theorem dX6_branchAt_37 : decode cX6_branchAt 37 = .ok (.getfield 27, 3) := by decide +kernel
theorem dX6_branchAt_40 : decode cX6_branchAt 40 = .ok (.iload_n 1, 1) := by decide +kernel
theorem dX6_branchAt_41 : decode cX6_branchAt 41 = .ok (.dup2, 1) := by decide +kernel
theorem dX6_branchAt_42 : decode cX6_branchAt 42 = .ok (.iaload, 1) := by decide +kernel
theorem dX6_branchAt_43 : decode cX6_branchAt 43 = .ok (.iconst 1, 1) := by decide +kernel
theorem dX6_branchAt_44 : decode cX6_branchAt 44 = .ok (.iadd, 1) := by decide +kernel
theorem dX6_branchAt_45 : decode cX6_branchAt 45 = .ok (.iastore, 1) := by decide +kernel
theorem dX6_branchAt_46 : decode cX6_branchAt 46 = .ok (.iload 4, 2) := by decide +kernel
theorem dX6_branchAt_48 : decode cX6_branchAt 48 = .ok (.ireturn, 1) := by decide +kernel
theorem dX6_update_0 : decode cX6_update 0 = .ok (.iload_n 1, 1) := by decide +kernel
theorem dX6_update_1 : decode cX6_update 1 = .ok (.iload_n 2, 1) := by decide +kernel
theorem dX6_update_2 : decode cX6_update 2 = .ok (.invokestatic 120, 3) := by decide +kernel
theorem dX6_update_5 : decode cX6_update 5 = .ok (.ifCond .ne 30, 3) := by decide +kernel
theorem dX6_update_8 : decode cX6_update 8 = .ok (.iload_n 3, 1) := by decide +kernel
theorem dX6_update_9 : decode cX6_update 9 = .ok (.iconst (-1), 1) := by decide +kernel
theorem dX6_update_10 : decode cX6_update 10 = .ok (.if_icmp .lt 25, 3) := by decide +kernel
theorem dX6_update_13 : decode cX6_update 13 = .ok (.iload_n 3, 1) := by decide +kernel
theorem dX6_update_14 : decode cX6_update 14 = .ok (.iconst 5, 1) := by decide +kernel
theorem dX6_update_15 : decode cX6_update 15 = .ok (.if_icmp .gt 20, 3) := by decide +kernel
theorem dX6_update_18 : decode cX6_update 18 = .ok (.iload_n 3, 1) := by decide +kernel
theorem dX6_update_19 : decode cX6_update 19 = .ok (.iconst 5, 1) := by decide +kernel
theorem dX6_update_20 : decode cX6_update 20 = .ok (.invokestatic 72, 3) := by decide +kernel
theorem dX6_update_23 : decode cX6_update 23 = .ok (.ifCond .eq 14, 3) := by decide +kernel
theorem dX6_update_26 : decode cX6_update 26 = .ok (.aload_n 0, 1) := by decide +kernel
theorem dX6_update_27 : decode cX6_update 27 = .ok (.getfield 42, 3) := by decide +kernel
theorem dX6_update_30 : decode cX6_update 30 = .ok (.iload_n 3, 1) := by decide +kernel
theorem dX6_update_31 : decode cX6_update 31 = .ok (.iaload, 1) := by decide +kernel
theorem dX6_update_32 : decode cX6_update 32 = .ok (.ifCond .ne 5, 3) := by decide +kernel
theorem dX6_update_35 : decode cX6_update 35 = .ok (.iconst (-1), 1) := by decide +kernel
theorem dX6_update_36 : decode cX6_update 36 = .ok (.ireturn, 1) := by decide +kernel
theorem dX6_update_37 : decode cX6_update 37 = .ok (.iconst 4, 1) := by decide +kernel
theorem dX6_update_38 : decode cX6_update 38 = .ok (.iload_n 1, 1) := by decide +kernel
theorem dX6_update_39 : decode cX6_update 39 = .ok (.imul, 1) := by decide +kernel
theorem dX6_update_40 : decode cX6_update 40 = .ok (.iload_n 2, 1) := by decide +kernel
theorem dX6_update_41 : decode cX6_update 41 = .ok (.iadd, 1) := by decide +kernel
theorem dX6_update_42 : decode cX6_update 42 = .ok (.istore 4, 2) := by decide +kernel
theorem dX6_update_44 : decode cX6_update 44 = .ok (.iload_n 3, 1) := by decide +kernel
theorem dX6_update_45 : decode cX6_update 45 = .ok (.iconst (-1), 1) := by decide +kernel
theorem dX6_update_46 : decode cX6_update 46 = .ok (.if_icmp .ne 13, 3) := by decide +kernel
theorem dX6_update_49 : decode cX6_update 49 = .ok (.aload_n 0, 1) := by decide +kernel
theorem dX6_update_50 : decode cX6_update 50 = .ok (.getfield 57, 3) := by decide +kernel
theorem dX6_update_53 : decode cX6_update 53 = .ok (.iload 4, 2) := by decide +kernel
theorem dX6_update_55 : decode cX6_update 55 = .ok (.iaload, 1) := by decide +kernel
theorem dX6_update_56 : decode cX6_update 56 = .ok (.goto 13, 3) := by decide +kernel
theorem dX6_update_59 : decode cX6_update 59 = .ok (.iload_n 3, 1) := by decide +kernel
theorem dX6_update_60 : decode cX6_update 60 = .ok (.iconst 5, 1) := by decide +kernel
theorem dX6_update_61 : decode cX6_update 61 = .ok (.if_icmp .ne 7, 3) := by decide +kernel
theorem dX6_update_64 : decode cX6_update 64 = .ok (.iconst (-1), 1) := by decide +kernel
theorem dX6_update_65 : decode cX6_update 65 = .ok (.goto 4, 3) := by decide +kernel
theorem dX6_update_68 : decode cX6_update 68 = .ok (.iload_n 3, 1) := by decide +kernel
theorem dX6_update_69 : decode cX6_update 69 = .ok (.istore 5, 2) := by decide +kernel
theorem dX6_update_71 : decode cX6_update 71 = .ok (.aload_n 0, 1) := by decide +kernel
theorem dX6_update_72 : decode cX6_update 72 = .ok (.iload_n 2, 1) := by decide +kernel
theorem dX6_update_73 : decode cX6_update 73 = .ok (.iload 4, 2) := by decide +kernel
theorem dX6_update_75 : decode cX6_update 75 = .ok (.aload_n 0, 1) := by decide +kernel
theorem dX6_update_76 : decode cX6_update 76 = .ok (.iload_n 2, 1) := by decide +kernel
theorem dX6_update_77 : decode cX6_update 77 = .ok (.iload 5, 2) := by decide +kernel
theorem dX6_update_79 : decode cX6_update 79 = .ok (.invokevirtual 134, 3) := by decide +kernel
theorem dX6_update_82 : decode cX6_update 82 = .ok (.invokevirtual 169, 3) := by decide +kernel
theorem dX6_update_85 : decode cX6_update 85 = .ok (.istore 6, 2) := by decide +kernel
theorem dX6_update_87 : decode cX6_update 87 = .ok (.aload_n 0, 1) := by decide +kernel
theorem dX6_update_88 : decode cX6_update 88 = .ok (.getfield 57, 3) := by decide +kernel
theorem dX6_update_91 : decode cX6_update 91 = .ok (.iload 4, 2) := by decide +kernel
theorem dX6_update_93 : decode cX6_update 93 = .ok (.iload 6, 2) := by decide +kernel
theorem dX6_update_95 : decode cX6_update 95 = .ok (.iconst 3, 1) := by decide +kernel
theorem dX6_update_96 : decode cX6_update 96 = .ok (.if_icmp .eq 10, 3) := by decide +kernel
theorem dX6_update_99 : decode cX6_update 99 = .ok (.iload 6, 2) := by decide +kernel
theorem dX6_update_101 : decode cX6_update 101 = .ok (.bipush (-7), 2) := by decide +kernel
theorem dX6_update_103 : decode cX6_update 103 = .ok (.if_icmp .ne 13, 3) := by decide +kernel
theorem dX6_update_106 : decode cX6_update 106 = .ok (.aload_n 0, 1) := by decide +kernel
theorem dX6_update_107 : decode cX6_update 107 = .ok (.getfield 57, 3) := by decide +kernel
theorem dX6_update_110 : decode cX6_update 110 = .ok (.iload 4, 2) := by decide +kernel
theorem dX6_update_112 : decode cX6_update 112 = .ok (.iaload, 1) := by decide +kernel
theorem dX6_update_113 : decode cX6_update 113 = .ok (.goto 5, 3) := by decide +kernel
theorem dX6_update_116 : decode cX6_update 116 = .ok (.iload 5, 2) := by decide +kernel
theorem dX6_update_118 : decode cX6_update 118 = .ok (.iastore, 1) := by decide +kernel
theorem dX6_update_119 : decode cX6_update 119 = .ok (.iload 6, 2) := by decide +kernel
theorem dX6_update_121 : decode cX6_update 121 = .ok (.ireturn, 1) := by decide +kernel
theorem dX6_updated_0 : decode cX6_updated 0 = .ok (.aload_n 0, 1) := by decide +kernel
theorem dX6_updated_1 : decode cX6_updated 1 = .ok (.getfield 48, 3) := by decide +kernel
theorem dX6_updated_4 : decode cX6_updated 4 = .ok (.iload_n 2, 1) := by decide +kernel
theorem dX6_updated_5 : decode cX6_updated 5 = .ok (.iaload, 1) := by decide +kernel
theorem dX6_updated_6 : decode cX6_updated 6 = .ok (.istore 4, 2) := by decide +kernel
theorem dX6_updated_8 : decode cX6_updated 8 = .ok (.aload_n 0, 1) := by decide +kernel
theorem dX6_updated_9 : decode cX6_updated 9 = .ok (.iload_n 1, 1) := by decide +kernel
theorem dX6_updated_10 : decode cX6_updated 10 = .ok (.iload_n 3, 1) := by decide +kernel
theorem dX6_updated_11 : decode cX6_updated 11 = .ok (.invokevirtual 137, 3) := by decide +kernel
theorem dX6_updated_14 : decode cX6_updated 14 = .ok (.istore 5, 2) := by decide +kernel
theorem dX6_updated_16 : decode cX6_updated 16 = .ok (.iload 4, 2) := by decide +kernel
theorem dX6_updated_18 : decode cX6_updated 18 = .ok (.iconst (-1), 1) := by decide +kernel
theorem dX6_updated_19 : decode cX6_updated 19 = .ok (.if_icmp .ne 26, 3) := by decide +kernel
theorem dX6_updated_22 : decode cX6_updated 22 = .ok (.iload 5, 2) := by decide +kernel
theorem dX6_updated_24 : decode cX6_updated 24 = .ok (.ifCond .ne 10, 3) := by decide +kernel
theorem dX6_updated_27 : decode cX6_updated 27 = .ok (.aload_n 0, 1) := by decide +kernel
theorem dX6_updated_28 : decode cX6_updated 28 = .ok (.iload_n 1, 1) := by decide +kernel
theorem dX6_updated_29 : decode cX6_updated 29 = .ok (.iload_n 2, 1) := by decide +kernel
theorem dX6_updated_30 : decode cX6_updated 30 = .ok (.iload_n 3, 1) := by decide +kernel
theorem dX6_updated_31 : decode cX6_updated 31 = .ok (.invokevirtual 157, 3) := by decide +kernel
theorem dX6_updated_34 : decode cX6_updated 34 = .ok (.iload 5, 2) := by decide +kernel
theorem dX6_updated_36 : decode cX6_updated 36 = .ok (.ifCond .eq 7, 3) := by decide +kernel
theorem dX6_updated_39 : decode cX6_updated 39 = .ok (.iconst 0, 1) := by decide +kernel
theorem dX6_updated_40 : decode cX6_updated 40 = .ok (.goto 4, 3) := by decide +kernel
theorem dX6_updated_43 : decode cX6_updated 43 = .ok (.iconst 2, 1) := by decide +kernel
theorem dX6_updated_44 : decode cX6_updated 44 = .ok (.ireturn, 1) := by decide +kernel
theorem dX6_updated_45 : decode cX6_updated 45 = .ok (.iload 4, 2) := by decide +kernel
theorem dX6_updated_47 : decode cX6_updated 47 = .ok (.bipush (-2), 2) := by decide +kernel
theorem dX6_updated_49 : decode cX6_updated 49 = .ok (.if_icmp .ne 14, 3) := by decide +kernel
theorem dX6_updated_52 : decode cX6_updated 52 = .ok (.iload 5, 2) := by decide +kernel
theorem dX6_updated_54 : decode cX6_updated 54 = .ok (.ifCond .eq 7, 3) := by decide +kernel
theorem dX6_updated_57 : decode cX6_updated 57 = .ok (.iconst 0, 1) := by decide +kernel
theorem dX6_updated_58 : decode cX6_updated 58 = .ok (.goto 4, 3) := by decide +kernel
theorem dX6_updated_61 : decode cX6_updated 61 = .ok (.iconst 3, 1) := by decide +kernel
theorem dX6_updated_62 : decode cX6_updated 62 = .ok (.ireturn, 1) := by decide +kernel
theorem dX6_updated_63 : decode cX6_updated 63 = .ok (.iload 5, 2) := by decide +kernel
theorem dX6_updated_65 : decode cX6_updated 65 = .ok (.ifCond .eq 14, 3) := by decide +kernel
theorem dX6_updated_68 : decode cX6_updated 68 = .ok (.aload_n 0, 1) := by decide +kernel
theorem dX6_updated_69 : decode cX6_updated 69 = .ok (.iload_n 1, 1) := by decide +kernel
theorem dX6_updated_70 : decode cX6_updated 70 = .ok (.iload_n 2, 1) := by decide +kernel
theorem dX6_updated_71 : decode cX6_updated 71 = .ok (.invokevirtual 140, 3) := by decide +kernel
theorem dX6_updated_74 : decode cX6_updated 74 = .ok (.ifCond .eq 5, 3) := by decide +kernel
theorem dX6_updated_77 : decode cX6_updated 77 = .ok (.iconst 3, 1) := by decide +kernel
theorem dX6_updated_78 : decode cX6_updated 78 = .ok (.ireturn, 1) := by decide +kernel
theorem dX6_updated_79 : decode cX6_updated 79 = .ok (.iload 5, 2) := by decide +kernel
theorem dX6_updated_81 : decode cX6_updated 81 = .ok (.ifCond .eq 19, 3) := by decide +kernel
theorem dX6_updated_84 : decode cX6_updated 84 = .ok (.aload_n 0, 1) := by decide +kernel
theorem dX6_updated_85 : decode cX6_updated 85 = .ok (.getfield 48, 3) := by decide +kernel
theorem dX6_updated_88 : decode cX6_updated 88 = .ok (.iload_n 2, 1) := by decide +kernel
theorem dX6_updated_89 : decode cX6_updated 89 = .ok (.iconst (-1), 1) := by decide +kernel
theorem dX6_updated_90 : decode cX6_updated 90 = .ok (.iastore, 1) := by decide +kernel
theorem dX6_updated_91 : decode cX6_updated 91 = .ok (.aload_n 0, 1) := by decide +kernel
theorem dX6_updated_92 : decode cX6_updated 92 = .ok (.getfield 51, 3) := by decide +kernel
theorem dX6_updated_95 : decode cX6_updated 95 = .ok (.iload_n 2, 1) := by decide +kernel
theorem dX6_updated_96 : decode cX6_updated 96 = .ok (.iconst 0, 1) := by decide +kernel
theorem dX6_updated_97 : decode cX6_updated 97 = .ok (.bastore, 1) := by decide +kernel
theorem dX6_updated_98 : decode cX6_updated 98 = .ok (.iconst 1, 1) := by decide +kernel
theorem dX6_updated_99 : decode cX6_updated 99 = .ok (.ireturn, 1) := by decide +kernel
theorem dX6_updated_100 : decode cX6_updated 100 = .ok (.aload_n 0, 1) := by decide +kernel
theorem dX6_updated_101 : decode cX6_updated 101 = .ok (.getfield 51, 3) := by decide +kernel
theorem dX6_updated_104 : decode cX6_updated 104 = .ok (.iload_n 2, 1) := by decide +kernel
theorem dX6_updated_105 : decode cX6_updated 105 = .ok (.baload, 1) := by decide +kernel
theorem dX6_updated_106 : decode cX6_updated 106 = .ok (.ifCond .ne 9, 3) := by decide +kernel
theorem dX6_updated_109 : decode cX6_updated 109 = .ok (.iload_n 3, 1) := by decide +kernel
theorem dX6_updated_110 : decode cX6_updated 110 = .ok (.iload 4, 2) := by decide +kernel
theorem dX6_updated_112 : decode cX6_updated 112 = .ok (.if_icmp .ne 5, 3) := by decide +kernel
theorem dX6_updated_115 : decode cX6_updated 115 = .ok (.iconst 0, 1) := by decide +kernel
theorem dX6_updated_116 : decode cX6_updated 116 = .ok (.ireturn, 1) := by decide +kernel
theorem dX6_updated_117 : decode cX6_updated 117 = .ok (.aload_n 0, 1) := by decide +kernel
theorem dX6_updated_118 : decode cX6_updated 118 = .ok (.iload_n 1, 1) := by decide +kernel
theorem dX6_updated_119 : decode cX6_updated 119 = .ok (.iload_n 2, 1) := by decide +kernel
theorem dX6_updated_120 : decode cX6_updated 120 = .ok (.invokevirtual 140, 3) := by decide +kernel
theorem dX6_updated_123 : decode cX6_updated 123 = .ok (.ifCond .ne 12, 3) := by decide +kernel
theorem dX6_updated_126 : decode cX6_updated 126 = .ok (.aload_n 0, 1) := by decide +kernel
theorem dX6_updated_127 : decode cX6_updated 127 = .ok (.iload_n 1, 1) := by decide +kernel
theorem dX6_updated_128 : decode cX6_updated 128 = .ok (.iload_n 2, 1) := by decide +kernel
theorem dX6_updated_129 : decode cX6_updated 129 = .ok (.iload_n 3, 1) := by decide +kernel
theorem dX6_updated_130 : decode cX6_updated 130 = .ok (.invokevirtual 157, 3) := by decide +kernel
theorem dX6_updated_133 : decode cX6_updated 133 = .ok (.iconst 2, 1) := by decide +kernel
theorem dX6_updated_134 : decode cX6_updated 134 = .ok (.ireturn, 1) := by decide +kernel
theorem dX6_updated_135 : decode cX6_updated 135 = .ok (.aload_n 0, 1) := by decide +kernel
theorem dX6_updated_136 : decode cX6_updated 136 = .ok (.aload_n 0, 1) := by decide +kernel
theorem dX6_updated_137 : decode cX6_updated 137 = .ok (.getfield 13, 3) := by decide +kernel
theorem dX6_updated_140 : decode cX6_updated 140 = .ok (.bipush 24, 2) := by decide +kernel
theorem dX6_updated_142 : decode cX6_updated 142 = .ok (.iload_n 1, 1) := by decide +kernel
theorem dX6_updated_143 : decode cX6_updated 143 = .ok (.imul, 1) := by decide +kernel
theorem dX6_updated_144 : decode cX6_updated 144 = .ok (.iload 4, 2) := by decide +kernel
theorem dX6_updated_146 : decode cX6_updated 146 = .ok (.iadd, 1) := by decide +kernel
theorem dX6_updated_147 : decode cX6_updated 147 = .ok (.laload, 1) := by decide +kernel
theorem dX6_updated_148 : decode cX6_updated 148 = .ok (.aload_n 0, 1) := by decide +kernel
theorem dX6_updated_149 : decode cX6_updated 149 = .ok (.getfield 54, 3) := by decide +kernel
theorem dX6_updated_152 : decode cX6_updated 152 = .ok (.iload_n 2, 1) := by decide +kernel
theorem dX6_updated_153 : decode cX6_updated 153 = .ok (.laload, 1) := by decide +kernel
theorem dX6_updated_154 : decode cX6_updated 154 = .ok (.aload_n 0, 1) := by decide +kernel
theorem dX6_updated_155 : decode cX6_updated 155 = .ok (.getfield 13, 3) := by decide +kernel
theorem dX6_updated_158 : decode cX6_updated 158 = .ok (.bipush 24, 2) := by decide +kernel
theorem dX6_updated_160 : decode cX6_updated 160 = .ok (.iload_n 1, 1) := by decide +kernel
theorem dX6_updated_161 : decode cX6_updated 161 = .ok (.imul, 1) := by decide +kernel
theorem dX6_updated_162 : decode cX6_updated 162 = .ok (.iload_n 3, 1) := by decide +kernel
theorem dX6_updated_163 : decode cX6_updated 163 = .ok (.iadd, 1) := by decide +kernel
theorem dX6_updated_164 : decode cX6_updated 164 = .ok (.laload, 1) := by decide +kernel
theorem dX6_updated_165 : decode cX6_updated 165 = .ok (.invokevirtual 161, 3) := by decide +kernel
theorem dX6_updated_168 : decode cX6_updated 168 = .ok (.aload_n 0, 1) := by decide +kernel
theorem dX6_updated_169 : decode cX6_updated 169 = .ok (.getfield 92, 3) := by decide +kernel
theorem dX6_updated_172 : decode cX6_updated 172 = .ok (.bipush 12, 2) := by decide +kernel
theorem dX6_updated_174 : decode cX6_updated 174 = .ok (.if_icmp .le 6, 3) := by decide +kernel
theorem dX6_updated_177 : decode cX6_updated 177 = .ok (.bipush (-7), 2) := by decide +kernel
theorem dX6_updated_179 : decode cX6_updated 179 = .ok (.ireturn, 1) := by decide +kernel
theorem dX6_updated_180 : decode cX6_updated 180 = .ok (.aload_n 0, 1) := by decide +kernel
theorem dX6_updated_181 : decode cX6_updated 181 = .ok (.getfield 54, 3) := by decide +kernel
theorem dX6_updated_184 : decode cX6_updated 184 = .ok (.iload_n 2, 1) := by decide +kernel
theorem dX6_updated_185 : decode cX6_updated 185 = .ok (.aload_n 0, 1) := by decide +kernel
theorem dX6_updated_186 : decode cX6_updated 186 = .ok (.invokevirtual 165, 3) := by decide +kernel
theorem dX6_updated_189 : decode cX6_updated 189 = .ok (.lastore, 1) := by decide +kernel
theorem dX6_updated_190 : decode cX6_updated 190 = .ok (.aload_n 0, 1) := by decide +kernel
theorem dX6_updated_191 : decode cX6_updated 191 = .ok (.getfield 48, 3) := by decide +kernel
theorem dX6_updated_194 : decode cX6_updated 194 = .ok (.iload_n 2, 1) := by decide +kernel
theorem dX6_updated_195 : decode cX6_updated 195 = .ok (.iload_n 3, 1) := by decide +kernel
theorem dX6_updated_196 : decode cX6_updated 196 = .ok (.iastore, 1) := by decide +kernel
theorem dX6_updated_197 : decode cX6_updated 197 = .ok (.aload_n 0, 1) := by decide +kernel
theorem dX6_updated_198 : decode cX6_updated 198 = .ok (.getfield 104, 3) := by decide +kernel
theorem dX6_updated_201 : decode cX6_updated 201 = .ok (.ifCond .eq 7, 3) := by decide +kernel
theorem dX6_updated_204 : decode cX6_updated 204 = .ok (.iconst 5, 1) := by decide +kernel
theorem dX6_updated_205 : decode cX6_updated 205 = .ok (.goto 4, 3) := by decide +kernel
theorem dX6_updated_208 : decode cX6_updated 208 = .ok (.iconst 4, 1) := by decide +kernel
theorem dX6_updated_209 : decode cX6_updated 209 = .ok (.ireturn, 1) := by decide +kernel
theorem dX6_take_0 : decode cX6_take 0 = .ok (.aload_n 0, 1) := by decide +kernel
theorem dX6_take_1 : decode cX6_take 1 = .ok (.getfield 48, 3) := by decide +kernel
theorem dX6_take_4 : decode cX6_take 4 = .ok (.iload_n 2, 1) := by decide +kernel
theorem dX6_take_5 : decode cX6_take 5 = .ok (.iload_n 3, 1) := by decide +kernel
theorem dX6_take_6 : decode cX6_take 6 = .ok (.iastore, 1) := by decide +kernel
theorem dX6_take_7 : decode cX6_take 7 = .ok (.aload_n 0, 1) := by decide +kernel
theorem dX6_take_8 : decode cX6_take 8 = .ok (.getfield 51, 3) := by decide +kernel
theorem dX6_take_11 : decode cX6_take 11 = .ok (.iload_n 2, 1) := by decide +kernel
theorem dX6_take_12 : decode cX6_take 12 = .ok (.iconst 0, 1) := by decide +kernel
theorem dX6_take_13 : decode cX6_take 13 = .ok (.bastore, 1) := by decide +kernel
theorem dX6_take_14 : decode cX6_take 14 = .ok (.aload_n 0, 1) := by decide +kernel
theorem dX6_take_15 : decode cX6_take 15 = .ok (.getfield 54, 3) := by decide +kernel
theorem dX6_take_18 : decode cX6_take 18 = .ok (.iload_n 2, 1) := by decide +kernel
theorem dX6_take_19 : decode cX6_take 19 = .ok (.aload_n 0, 1) := by decide +kernel
theorem dX6_take_20 : decode cX6_take 20 = .ok (.getfield 13, 3) := by decide +kernel
theorem dX6_take_23 : decode cX6_take 23 = .ok (.bipush 24, 2) := by decide +kernel
theorem dX6_take_25 : decode cX6_take 25 = .ok (.iload_n 1, 1) := by decide +kernel
theorem dX6_take_26 : decode cX6_take 26 = .ok (.imul, 1) := by decide +kernel
theorem dX6_take_27 : decode cX6_take 27 = .ok (.iload_n 3, 1) := by decide +kernel
theorem dX6_take_28 : decode cX6_take 28 = .ok (.iadd, 1) := by decide +kernel
theorem dX6_take_29 : decode cX6_take 29 = .ok (.laload, 1) := by decide +kernel
theorem dX6_take_30 : decode cX6_take 30 = .ok (.lastore, 1) := by decide +kernel
theorem dX6_take_31 : decode cX6_take 31 = .ok (.return_, 1) := by decide +kernel
theorem dX6_merge_0 : decode cX6_merge 0 = .ok (.aload_n 0, 1) := by decide +kernel
theorem dX6_merge_1 : decode cX6_merge 1 = .ok (.lload_n 1, 1) := by decide +kernel
theorem dX6_merge_2 : decode cX6_merge 2 = .ok (.lload_n 3, 1) := by decide +kernel
theorem dX6_merge_3 : decode cX6_merge 3 = .ok (.iconst 1, 1) := by decide +kernel
theorem dX6_merge_4 : decode cX6_merge 4 = .ok (.invokevirtual 100, 3) := by decide +kernel
theorem dX6_merge_7 : decode cX6_merge 7 = .ok (.aload_n 0, 1) := by decide +kernel
theorem dX6_merge_8 : decode cX6_merge 8 = .ok (.lload_n 1, 1) := by decide +kernel
theorem dX6_merge_9 : decode cX6_merge 9 = .ok (.lload 5, 2) := by decide +kernel
theorem dX6_merge_11 : decode cX6_merge 11 = .ok (.iconst 0, 1) := by decide +kernel
theorem dX6_merge_12 : decode cX6_merge 12 = .ok (.invokevirtual 100, 3) := by decide +kernel
theorem dX6_merge_15 : decode cX6_merge 15 = .ok (.aload_n 0, 1) := by decide +kernel
theorem dX6_merge_16 : decode cX6_merge 16 = .ok (.iconst 0, 1) := by decide +kernel
theorem dX6_merge_17 : decode cX6_merge 17 = .ok (.putfield 92, 3) := by decide +kernel
theorem dX6_merge_20 : decode cX6_merge 20 = .ok (.aload_n 0, 1) := by decide +kernel
theorem dX6_merge_21 : decode cX6_merge 21 = .ok (.iconst 0, 1) := by decide +kernel
theorem dX6_merge_22 : decode cX6_merge 22 = .ok (.putfield 104, 3) := by decide +kernel
theorem dX6_merge_25 : decode cX6_merge 25 = .ok (.iconst 0, 1) := by decide +kernel
theorem dX6_merge_26 : decode cX6_merge 26 = .ok (.istore 7, 2) := by decide +kernel
theorem dX6_merge_28 : decode cX6_merge 28 = .ok (.iconst 0, 1) := by decide +kernel
theorem dX6_merge_29 : decode cX6_merge 29 = .ok (.istore 8, 2) := by decide +kernel
theorem dX6_merge_31 : decode cX6_merge 31 = .ok (.iconst 0, 1) := by decide +kernel
theorem dX6_merge_32 : decode cX6_merge 32 = .ok (.istore 9, 2) := by decide +kernel
theorem dX6_merge_34 : decode cX6_merge 34 = .ok (.iconst 0, 1) := by decide +kernel
theorem dX6_merge_35 : decode cX6_merge 35 = .ok (.istore 10, 2) := by decide +kernel
theorem dX6_merge_37 : decode cX6_merge 37 = .ok (.iload 10, 2) := by decide +kernel
theorem dX6_merge_39 : decode cX6_merge 39 = .ok (.lload_n 1, 1) := by decide +kernel
theorem dX6_merge_40 : decode cX6_merge 40 = .ok (.invokestatic 78, 3) := by decide +kernel
theorem dX6_merge_43 : decode cX6_merge 43 = .ok (.if_icmp .gt 252, 3) := by decide +kernel
theorem dX6_merge_46 : decode cX6_merge 46 = .ok (.iload 10, 2) := by decide +kernel
theorem dX6_merge_48 : decode cX6_merge 48 = .ok (.lload_n 1, 1) := by decide +kernel
theorem dX6_merge_49 : decode cX6_merge 49 = .ok (.invokestatic 78, 3) := by decide +kernel
theorem dX6_merge_52 : decode cX6_merge 52 = .ok (.if_icmp .ge 27, 3) := by decide +kernel
theorem dX6_merge_55 : decode cX6_merge 55 = .ok (.aload_n 0, 1) := by decide +kernel
theorem dX6_merge_56 : decode cX6_merge 56 = .ok (.getfield 63, 3) := by decide +kernel
theorem dX6_merge_59 : decode cX6_merge 59 = .ok (.iload 10, 2) := by decide +kernel
theorem dX6_merge_61 : decode cX6_merge 61 = .ok (.iaload, 1) := by decide +kernel
theorem dX6_merge_62 : decode cX6_merge 62 = .ok (.ifCond .lt 17, 3) := by decide +kernel
theorem dX6_merge_65 : decode cX6_merge 65 = .ok (.aload_n 0, 1) := by decide +kernel
theorem dX6_merge_66 : decode cX6_merge 66 = .ok (.getfield 66, 3) := by decide +kernel
theorem dX6_merge_69 : decode cX6_merge 69 = .ok (.iload 10, 2) := by decide +kernel
theorem dX6_merge_71 : decode cX6_merge 71 = .ok (.iaload, 1) := by decide +kernel
theorem dX6_merge_72 : decode cX6_merge 72 = .ok (.ifCond .lt 7, 3) := by decide +kernel
theorem dX6_merge_75 : decode cX6_merge 75 = .ok (.iconst 1, 1) := by decide +kernel
theorem dX6_merge_76 : decode cX6_merge 76 = .ok (.goto 4, 3) := by decide +kernel
theorem dX6_merge_79 : decode cX6_merge 79 = .ok (.iconst 0, 1) := by decide +kernel
theorem dX6_merge_80 : decode cX6_merge 80 = .ok (.istore 11, 2) := by decide +kernel
theorem dX6_merge_82 : decode cX6_merge 82 = .ok (.iload 11, 2) := by decide +kernel
theorem dX6_merge_84 : decode cX6_merge 84 = .ok (.ifCond .ne 12, 3) := by decide +kernel
theorem dX6_merge_87 : decode cX6_merge 87 = .ok (.iload 10, 2) := by decide +kernel
theorem dX6_merge_89 : decode cX6_merge 89 = .ok (.lload_n 1, 1) := by decide +kernel
theorem dX6_merge_90 : decode cX6_merge 90 = .ok (.invokestatic 78, 3) := by decide +kernel
theorem dX6_merge_93 : decode cX6_merge 93 = .ok (.if_icmp .ne 196, 3) := by decide +kernel
theorem dX6_merge_96 : decode cX6_merge 96 = .ok (.iload 11, 2) := by decide +kernel
theorem dX6_merge_98 : decode cX6_merge 98 = .ok (.ifCond .eq 13, 3) := by decide +kernel
theorem dX6_merge_101 : decode cX6_merge 101 = .ok (.aload_n 0, 1) := by decide +kernel
theorem dX6_merge_102 : decode cX6_merge 102 = .ok (.getfield 63, 3) := by decide +kernel
theorem dX6_merge_105 : decode cX6_merge 105 = .ok (.iload 10, 2) := by decide +kernel
theorem dX6_merge_107 : decode cX6_merge 107 = .ok (.iaload, 1) := by decide +kernel
theorem dX6_merge_108 : decode cX6_merge 108 = .ok (.goto 7, 3) := by decide +kernel
theorem dX6_merge_111 : decode cX6_merge 111 = .ok (.lload_n 3, 1) := by decide +kernel
theorem dX6_merge_112 : decode cX6_merge 112 = .ok (.invokestatic 78, 3) := by decide +kernel
theorem dX6_merge_115 : decode cX6_merge 115 = .ok (.istore 12, 2) := by decide +kernel
theorem dX6_merge_117 : decode cX6_merge 117 = .ok (.iload 11, 2) := by decide +kernel
theorem dX6_merge_119 : decode cX6_merge 119 = .ok (.ifCond .eq 13, 3) := by decide +kernel
theorem dX6_merge_122 : decode cX6_merge 122 = .ok (.aload_n 0, 1) := by decide +kernel
theorem dX6_merge_123 : decode cX6_merge 123 = .ok (.getfield 66, 3) := by decide +kernel
theorem dX6_merge_126 : decode cX6_merge 126 = .ok (.iload 10, 2) := by decide +kernel
theorem dX6_merge_128 : decode cX6_merge 128 = .ok (.iaload, 1) := by decide +kernel
theorem dX6_merge_129 : decode cX6_merge 129 = .ok (.goto 8, 3) := by decide +kernel
theorem dX6_merge_132 : decode cX6_merge 132 = .ok (.lload 5, 2) := by decide +kernel
theorem dX6_merge_134 : decode cX6_merge 134 = .ok (.invokestatic 78, 3) := by decide +kernel
theorem dX6_merge_137 : decode cX6_merge 137 = .ok (.istore 13, 2) := by decide +kernel
theorem dX6_merge_139 : decode cX6_merge 139 = .ok (.lload_n 3, 1) := by decide +kernel
theorem dX6_merge_140 : decode cX6_merge 140 = .ok (.iload 8, 2) := by decide +kernel
theorem dX6_merge_142 : decode cX6_merge 142 = .ok (.iload 12, 2) := by decide +kernel
theorem dX6_merge_144 : decode cX6_merge 144 = .ok (.lload_n 1, 1) := by decide +kernel
theorem dX6_merge_145 : decode cX6_merge 145 = .ok (.iload 7, 2) := by decide +kernel
theorem dX6_merge_147 : decode cX6_merge 147 = .ok (.iload 10, 2) := by decide +kernel
theorem dX6_merge_149 : decode cX6_merge 149 = .ok (.invokestatic 108, 3) := by decide +kernel
theorem dX6_merge_152 : decode cX6_merge 152 = .ok (.ifCond .eq 16, 3) := by decide +kernel
theorem dX6_merge_155 : decode cX6_merge 155 = .ok (.aload_n 0, 1) := by decide +kernel
theorem dX6_merge_156 : decode cX6_merge 156 = .ok (.lload 5, 2) := by decide +kernel
theorem dX6_merge_158 : decode cX6_merge 158 = .ok (.iload 9, 2) := by decide +kernel
theorem dX6_merge_160 : decode cX6_merge 160 = .ok (.iload 13, 2) := by decide +kernel
theorem dX6_merge_162 : decode cX6_merge 162 = .ok (.invokevirtual 112, 3) := by decide +kernel
theorem dX6_merge_165 : decode cX6_merge 165 = .ok (.goto 91, 3) := by decide +kernel
theorem dX6_merge_168 : decode cX6_merge 168 = .ok (.lload 5, 2) := by decide +kernel
theorem dX6_merge_170 : decode cX6_merge 170 = .ok (.iload 9, 2) := by decide +kernel
theorem dX6_merge_172 : decode cX6_merge 172 = .ok (.iload 13, 2) := by decide +kernel
theorem dX6_merge_174 : decode cX6_merge 174 = .ok (.lload_n 1, 1) := by decide +kernel
theorem dX6_merge_175 : decode cX6_merge 175 = .ok (.iload 7, 2) := by decide +kernel
theorem dX6_merge_177 : decode cX6_merge 177 = .ok (.iload 10, 2) := by decide +kernel
theorem dX6_merge_179 : decode cX6_merge 179 = .ok (.invokestatic 108, 3) := by decide +kernel
theorem dX6_merge_182 : decode cX6_merge 182 = .ok (.ifCond .ne 20, 3) := by decide +kernel
theorem dX6_merge_185 : decode cX6_merge 185 = .ok (.lload 5, 2) := by decide +kernel
theorem dX6_merge_187 : decode cX6_merge 187 = .ok (.iload 9, 2) := by decide +kernel
theorem dX6_merge_189 : decode cX6_merge 189 = .ok (.iload 13, 2) := by decide +kernel
theorem dX6_merge_191 : decode cX6_merge 191 = .ok (.lload_n 3, 1) := by decide +kernel
theorem dX6_merge_192 : decode cX6_merge 192 = .ok (.iload 8, 2) := by decide +kernel
theorem dX6_merge_194 : decode cX6_merge 194 = .ok (.iload 12, 2) := by decide +kernel
theorem dX6_merge_196 : decode cX6_merge 196 = .ok (.invokestatic 108, 3) := by decide +kernel
theorem dX6_merge_199 : decode cX6_merge 199 = .ok (.ifCond .eq 15, 3) := by decide +kernel
theorem dX6_merge_202 : decode cX6_merge 202 = .ok (.aload_n 0, 1) := by decide +kernel
theorem dX6_merge_203 : decode cX6_merge 203 = .ok (.lload_n 3, 1) := by decide +kernel
theorem dX6_merge_204 : decode cX6_merge 204 = .ok (.iload 8, 2) := by decide +kernel
theorem dX6_merge_206 : decode cX6_merge 206 = .ok (.iload 12, 2) := by decide +kernel
theorem dX6_merge_208 : decode cX6_merge 208 = .ok (.invokevirtual 112, 3) := by decide +kernel
theorem dX6_merge_211 : decode cX6_merge 211 = .ok (.goto 45, 3) := by decide +kernel
theorem dX6_merge_214 : decode cX6_merge 214 = .ok (.aload_n 0, 1) := by decide +kernel
theorem dX6_merge_215 : decode cX6_merge 215 = .ok (.iconst 1, 1) := by decide +kernel
theorem dX6_merge_216 : decode cX6_merge 216 = .ok (.putfield 104, 3) := by decide +kernel
theorem dX6_merge_219 : decode cX6_merge 219 = .ok (.aload_n 0, 1) := by decide +kernel
theorem dX6_merge_220 : decode cX6_merge 220 = .ok (.bipush 17, 2) := by decide +kernel
theorem dX6_merge_222 : decode cX6_merge 222 = .ok (.invokevirtual 96, 3) := by decide +kernel
theorem dX6_merge_225 : decode cX6_merge 225 = .ok (.aload_n 0, 1) := by decide +kernel
theorem dX6_merge_226 : decode cX6_merge 226 = .ok (.lload_n 3, 1) := by decide +kernel
theorem dX6_merge_227 : decode cX6_merge 227 = .ok (.iload 8, 2) := by decide +kernel
theorem dX6_merge_229 : decode cX6_merge 229 = .ok (.iload 12, 2) := by decide +kernel
theorem dX6_merge_231 : decode cX6_merge 231 = .ok (.invokevirtual 112, 3) := by decide +kernel
theorem dX6_merge_234 : decode cX6_merge 234 = .ok (.aload_n 0, 1) := by decide +kernel
theorem dX6_merge_235 : decode cX6_merge 235 = .ok (.bipush 18, 2) := by decide +kernel
theorem dX6_merge_237 : decode cX6_merge 237 = .ok (.invokevirtual 96, 3) := by decide +kernel
theorem dX6_merge_240 : decode cX6_merge 240 = .ok (.aload_n 0, 1) := by decide +kernel
theorem dX6_merge_241 : decode cX6_merge 241 = .ok (.lload 5, 2) := by decide +kernel
theorem dX6_merge_243 : decode cX6_merge 243 = .ok (.iload 9, 2) := by decide +kernel
theorem dX6_merge_245 : decode cX6_merge 245 = .ok (.iload 13, 2) := by decide +kernel
theorem dX6_merge_247 : decode cX6_merge 247 = .ok (.invokevirtual 112, 3) := by decide +kernel
theorem dX6_merge_250 : decode cX6_merge 250 = .ok (.aload_n 0, 1) := by decide +kernel
theorem dX6_merge_251 : decode cX6_merge 251 = .ok (.bipush 19, 2) := by decide +kernel
theorem dX6_merge_253 : decode cX6_merge 253 = .ok (.invokevirtual 96, 3) := by decide +kernel
theorem dX6_merge_256 : decode cX6_merge 256 = .ok (.iload 11, 2) := by decide +kernel
theorem dX6_merge_258 : decode cX6_merge 258 = .ok (.ifCond .eq 13, 3) := by decide +kernel
theorem dX6_merge_261 : decode cX6_merge 261 = .ok (.aload_n 0, 1) := by decide +kernel
theorem dX6_merge_262 : decode cX6_merge 262 = .ok (.lload_n 1, 1) := by decide +kernel
theorem dX6_merge_263 : decode cX6_merge 263 = .ok (.iload 10, 2) := by decide +kernel
theorem dX6_merge_265 : decode cX6_merge 265 = .ok (.invokestatic 84, 3) := by decide +kernel
theorem dX6_merge_268 : decode cX6_merge 268 = .ok (.invokevirtual 96, 3) := by decide +kernel
theorem dX6_merge_271 : decode cX6_merge 271 = .ok (.iload 10, 2) := by decide +kernel
theorem dX6_merge_273 : decode cX6_merge 273 = .ok (.iconst 1, 1) := by decide +kernel
theorem dX6_merge_274 : decode cX6_merge 274 = .ok (.iadd, 1) := by decide +kernel
theorem dX6_merge_275 : decode cX6_merge 275 = .ok (.istore 7, 2) := by decide +kernel
theorem dX6_merge_277 : decode cX6_merge 277 = .ok (.iload 12, 2) := by decide +kernel
theorem dX6_merge_279 : decode cX6_merge 279 = .ok (.iconst 1, 1) := by decide +kernel
theorem dX6_merge_280 : decode cX6_merge 280 = .ok (.iadd, 1) := by decide +kernel
theorem dX6_merge_281 : decode cX6_merge 281 = .ok (.istore 8, 2) := by decide +kernel
theorem dX6_merge_283 : decode cX6_merge 283 = .ok (.iload 13, 2) := by decide +kernel
theorem dX6_merge_285 : decode cX6_merge 285 = .ok (.iconst 1, 1) := by decide +kernel
theorem dX6_merge_286 : decode cX6_merge 286 = .ok (.iadd, 1) := by decide +kernel
theorem dX6_merge_287 : decode cX6_merge 287 = .ok (.istore 9, 2) := by decide +kernel
theorem dX6_merge_289 : decode cX6_merge 289 = .ok (.iinc 10 1, 3) := by decide +kernel
theorem dX6_merge_292 : decode cX6_merge 292 = .ok (.goto (-255), 3) := by decide +kernel
theorem dX6_merge_295 : decode cX6_merge 295 = .ok (.return_, 1) := by decide +kernel
theorem dX6_pairUp_0 : decode cX6_pairUp 0 = .ok (.aload_n 0, 1) := by decide +kernel
theorem dX6_pairUp_1 : decode cX6_pairUp 1 = .ok (.lload_n 1, 1) := by decide +kernel
theorem dX6_pairUp_2 : decode cX6_pairUp 2 = .ok (.lload_n 3, 1) := by decide +kernel
theorem dX6_pairUp_3 : decode cX6_pairUp 3 = .ok (.invokevirtual 88, 3) := by decide +kernel
theorem dX6_pairUp_6 : decode cX6_pairUp 6 = .ok (.iconst 0, 1) := by decide +kernel
theorem dX6_pairUp_7 : decode cX6_pairUp 7 = .ok (.istore 6, 2) := by decide +kernel
theorem dX6_pairUp_9 : decode cX6_pairUp 9 = .ok (.iload 6, 2) := by decide +kernel
theorem dX6_pairUp_11 : decode cX6_pairUp 11 = .ok (.bipush 13, 2) := by decide +kernel
theorem dX6_pairUp_13 : decode cX6_pairUp 13 = .ok (.if_icmp .ge 33, 3) := by decide +kernel
theorem dX6_pairUp_16 : decode cX6_pairUp 16 = .ok (.iload 5, 2) := by decide +kernel
theorem dX6_pairUp_18 : decode cX6_pairUp 18 = .ok (.ifCond .eq 14, 3) := by decide +kernel
theorem dX6_pairUp_21 : decode cX6_pairUp 21 = .ok (.aload_n 0, 1) := by decide +kernel
theorem dX6_pairUp_22 : decode cX6_pairUp 22 = .ok (.getfield 63, 3) := by decide +kernel
theorem dX6_pairUp_25 : decode cX6_pairUp 25 = .ok (.iload 6, 2) := by decide +kernel
theorem dX6_pairUp_27 : decode cX6_pairUp 27 = .ok (.iconst (-1), 1) := by decide +kernel
theorem dX6_pairUp_28 : decode cX6_pairUp 28 = .ok (.iastore, 1) := by decide +kernel
theorem dX6_pairUp_29 : decode cX6_pairUp 29 = .ok (.goto 11, 3) := by decide +kernel
theorem dX6_pairUp_32 : decode cX6_pairUp 32 = .ok (.aload_n 0, 1) := by decide +kernel
theorem dX6_pairUp_33 : decode cX6_pairUp 33 = .ok (.getfield 66, 3) := by decide +kernel
theorem dX6_pairUp_36 : decode cX6_pairUp 36 = .ok (.iload 6, 2) := by decide +kernel
theorem dX6_pairUp_38 : decode cX6_pairUp 38 = .ok (.iconst (-1), 1) := by decide +kernel
theorem dX6_pairUp_39 : decode cX6_pairUp 39 = .ok (.iastore, 1) := by decide +kernel
theorem dX6_pairUp_40 : decode cX6_pairUp 40 = .ok (.iinc 6 1, 3) := by decide +kernel
theorem dX6_pairUp_43 : decode cX6_pairUp 43 = .ok (.goto (-34), 3) := by decide +kernel
theorem dX6_pairUp_46 : decode cX6_pairUp 46 = .ok (.iconst 0, 1) := by decide +kernel
theorem dX6_pairUp_47 : decode cX6_pairUp 47 = .ok (.istore 6, 2) := by decide +kernel
theorem dX6_pairUp_49 : decode cX6_pairUp 49 = .ok (.iconst 0, 1) := by decide +kernel
theorem dX6_pairUp_50 : decode cX6_pairUp 50 = .ok (.istore 7, 2) := by decide +kernel
theorem dX6_pairUp_52 : decode cX6_pairUp 52 = .ok (.iload 6, 2) := by decide +kernel
theorem dX6_pairUp_54 : decode cX6_pairUp 54 = .ok (.lload_n 1, 1) := by decide +kernel
theorem dX6_pairUp_55 : decode cX6_pairUp 55 = .ok (.invokestatic 78, 3) := by decide +kernel
theorem dX6_pairUp_58 : decode cX6_pairUp 58 = .ok (.if_icmp .ge 108, 3) := by decide +kernel
theorem dX6_pairUp_61 : decode cX6_pairUp 61 = .ok (.iload 7, 2) := by decide +kernel
theorem dX6_pairUp_63 : decode cX6_pairUp 63 = .ok (.lload_n 3, 1) := by decide +kernel
theorem dX6_pairUp_64 : decode cX6_pairUp 64 = .ok (.invokestatic 78, 3) := by decide +kernel
theorem dX6_pairUp_67 : decode cX6_pairUp 67 = .ok (.if_icmp .ge 99, 3) := by decide +kernel
theorem dX6_pairUp_70 : decode cX6_pairUp 70 = .ok (.lload_n 1, 1) := by decide +kernel
theorem dX6_pairUp_71 : decode cX6_pairUp 71 = .ok (.iload 6, 2) := by decide +kernel
theorem dX6_pairUp_73 : decode cX6_pairUp 73 = .ok (.invokestatic 84, 3) := by decide +kernel
theorem dX6_pairUp_76 : decode cX6_pairUp 76 = .ok (.lload_n 3, 1) := by decide +kernel
theorem dX6_pairUp_77 : decode cX6_pairUp 77 = .ok (.iload 7, 2) := by decide +kernel
theorem dX6_pairUp_79 : decode cX6_pairUp 79 = .ok (.invokestatic 84, 3) := by decide +kernel
theorem dX6_pairUp_82 : decode cX6_pairUp 82 = .ok (.if_icmp .ne 38, 3) := by decide +kernel
theorem dX6_pairUp_85 : decode cX6_pairUp 85 = .ok (.iload 5, 2) := by decide +kernel
theorem dX6_pairUp_87 : decode cX6_pairUp 87 = .ok (.ifCond .eq 15, 3) := by decide +kernel
theorem dX6_pairUp_90 : decode cX6_pairUp 90 = .ok (.aload_n 0, 1) := by decide +kernel
theorem dX6_pairUp_91 : decode cX6_pairUp 91 = .ok (.getfield 63, 3) := by decide +kernel
theorem dX6_pairUp_94 : decode cX6_pairUp 94 = .ok (.iload 6, 2) := by decide +kernel
theorem dX6_pairUp_96 : decode cX6_pairUp 96 = .ok (.iload 7, 2) := by decide +kernel
theorem dX6_pairUp_98 : decode cX6_pairUp 98 = .ok (.iastore, 1) := by decide +kernel
theorem dX6_pairUp_99 : decode cX6_pairUp 99 = .ok (.goto 12, 3) := by decide +kernel
theorem dX6_pairUp_102 : decode cX6_pairUp 102 = .ok (.aload_n 0, 1) := by decide +kernel
theorem dX6_pairUp_103 : decode cX6_pairUp 103 = .ok (.getfield 66, 3) := by decide +kernel
theorem dX6_pairUp_106 : decode cX6_pairUp 106 = .ok (.iload 6, 2) := by decide +kernel
theorem dX6_pairUp_108 : decode cX6_pairUp 108 = .ok (.iload 7, 2) := by decide +kernel
theorem dX6_pairUp_110 : decode cX6_pairUp 110 = .ok (.iastore, 1) := by decide +kernel
theorem dX6_pairUp_111 : decode cX6_pairUp 111 = .ok (.iinc 6 1, 3) := by decide +kernel
theorem dX6_pairUp_114 : decode cX6_pairUp 114 = .ok (.iinc 7 1, 3) := by decide +kernel
theorem dX6_pairUp_117 : decode cX6_pairUp 117 = .ok (.goto (-65), 3) := by decide +kernel
theorem dX6_pairUp_120 : decode cX6_pairUp 120 = .ok (.aload_n 0, 1) := by decide +kernel
theorem dX6_pairUp_121 : decode cX6_pairUp 121 = .ok (.getfield 60, 3) := by decide +kernel
theorem dX6_pairUp_124 : decode cX6_pairUp 124 = .ok (.bipush 13, 2) := by decide +kernel
theorem dX6_pairUp_126 : decode cX6_pairUp 126 = .ok (.iload 6, 2) := by decide +kernel
theorem dX6_pairUp_128 : decode cX6_pairUp 128 = .ok (.imul, 1) := by decide +kernel
theorem dX6_pairUp_129 : decode cX6_pairUp 129 = .ok (.bipush 13, 2) := by decide +kernel
theorem dX6_pairUp_131 : decode cX6_pairUp 131 = .ok (.iadd, 1) := by decide +kernel
theorem dX6_pairUp_132 : decode cX6_pairUp 132 = .ok (.iload 7, 2) := by decide +kernel
theorem dX6_pairUp_134 : decode cX6_pairUp 134 = .ok (.iadd, 1) := by decide +kernel
theorem dX6_pairUp_135 : decode cX6_pairUp 135 = .ok (.iaload, 1) := by decide +kernel
theorem dX6_pairUp_136 : decode cX6_pairUp 136 = .ok (.aload_n 0, 1) := by decide +kernel
theorem dX6_pairUp_137 : decode cX6_pairUp 137 = .ok (.getfield 60, 3) := by decide +kernel
theorem dX6_pairUp_140 : decode cX6_pairUp 140 = .ok (.bipush 13, 2) := by decide +kernel
theorem dX6_pairUp_142 : decode cX6_pairUp 142 = .ok (.iload 6, 2) := by decide +kernel
theorem dX6_pairUp_144 : decode cX6_pairUp 144 = .ok (.imul, 1) := by decide +kernel
theorem dX6_pairUp_145 : decode cX6_pairUp 145 = .ok (.iload 7, 2) := by decide +kernel
theorem dX6_pairUp_147 : decode cX6_pairUp 147 = .ok (.iadd, 1) := by decide +kernel
theorem dX6_pairUp_148 : decode cX6_pairUp 148 = .ok (.iconst 1, 1) := by decide +kernel
theorem dX6_pairUp_149 : decode cX6_pairUp 149 = .ok (.iadd, 1) := by decide +kernel
theorem dX6_pairUp_150 : decode cX6_pairUp 150 = .ok (.iaload, 1) := by decide +kernel
theorem dX6_pairUp_151 : decode cX6_pairUp 151 = .ok (.if_icmp .lt 9, 3) := by decide +kernel
theorem dX6_pairUp_154 : decode cX6_pairUp 154 = .ok (.iinc 6 1, 3) := by decide +kernel
theorem dX6_pairUp_157 : decode cX6_pairUp 157 = .ok (.goto (-105), 3) := by decide +kernel
theorem dX6_pairUp_160 : decode cX6_pairUp 160 = .ok (.iinc 7 1, 3) := by decide +kernel
theorem dX6_pairUp_163 : decode cX6_pairUp 163 = .ok (.goto (-111), 3) := by decide +kernel
theorem dX6_pairUp_166 : decode cX6_pairUp 166 = .ok (.return_, 1) := by decide +kernel
theorem dX6_fill_0 : decode cX6_fill 0 = .ok (.iconst 0, 1) := by decide +kernel
theorem dX6_fill_1 : decode cX6_fill 1 = .ok (.istore 5, 2) := by decide +kernel
theorem dX6_fill_3 : decode cX6_fill 3 = .ok (.iload 5, 2) := by decide +kernel
theorem dX6_fill_5 : decode cX6_fill 5 = .ok (.sipush 169, 3) := by decide +kernel
theorem dX6_fill_8 : decode cX6_fill 8 = .ok (.if_icmp .ge 17, 3) := by decide +kernel
theorem dX6_fill_11 : decode cX6_fill 11 = .ok (.aload_n 0, 1) := by decide +kernel
theorem dX6_fill_12 : decode cX6_fill 12 = .ok (.getfield 60, 3) := by decide +kernel
theorem dX6_fill_15 : decode cX6_fill 15 = .ok (.iload 5, 2) := by decide +kernel
theorem dX6_fill_17 : decode cX6_fill 17 = .ok (.iconst 0, 1) := by decide +kernel
theorem dX6_fill_18 : decode cX6_fill 18 = .ok (.iastore, 1) := by decide +kernel
theorem dX6_fill_19 : decode cX6_fill 19 = .ok (.iinc 5 1, 3) := by decide +kernel
theorem dX6_fill_22 : decode cX6_fill 22 = .ok (.goto (-19), 3) := by decide +kernel
theorem dX6_fill_25 : decode cX6_fill 25 = .ok (.lload_n 1, 1) := by decide +kernel
theorem dX6_fill_26 : decode cX6_fill 26 = .ok (.invokestatic 78, 3) := by decide +kernel
theorem dX6_fill_29 : decode cX6_fill 29 = .ok (.iconst 1, 1) := by decide +kernel
theorem dX6_fill_30 : decode cX6_fill 30 = .ok (.isub, 1) := by decide +kernel
theorem dX6_fill_31 : decode cX6_fill 31 = .ok (.istore 5, 2) := by decide +kernel
theorem dX6_fill_33 : decode cX6_fill 33 = .ok (.iload 5, 2) := by decide +kernel
theorem dX6_fill_35 : decode cX6_fill 35 = .ok (.ifCond .lt 132, 3) := by decide +kernel
theorem dX6_fill_38 : decode cX6_fill 38 = .ok (.lload_n 3, 1) := by decide +kernel
theorem dX6_fill_39 : decode cX6_fill 39 = .ok (.invokestatic 78, 3) := by decide +kernel
theorem dX6_fill_42 : decode cX6_fill 42 = .ok (.iconst 1, 1) := by decide +kernel
theorem dX6_fill_43 : decode cX6_fill 43 = .ok (.isub, 1) := by decide +kernel
theorem dX6_fill_44 : decode cX6_fill 44 = .ok (.istore 6, 2) := by decide +kernel
theorem dX6_fill_46 : decode cX6_fill 46 = .ok (.iload 6, 2) := by decide +kernel
theorem dX6_fill_48 : decode cX6_fill 48 = .ok (.ifCond .lt 113, 3) := by decide +kernel
theorem dX6_fill_51 : decode cX6_fill 51 = .ok (.aload_n 0, 1) := by decide +kernel
theorem dX6_fill_52 : decode cX6_fill 52 = .ok (.getfield 60, 3) := by decide +kernel
theorem dX6_fill_55 : decode cX6_fill 55 = .ok (.bipush 13, 2) := by decide +kernel
theorem dX6_fill_57 : decode cX6_fill 57 = .ok (.iload 5, 2) := by decide +kernel
theorem dX6_fill_59 : decode cX6_fill 59 = .ok (.imul, 1) := by decide +kernel
theorem dX6_fill_60 : decode cX6_fill 60 = .ok (.bipush 13, 2) := by decide +kernel
theorem dX6_fill_62 : decode cX6_fill 62 = .ok (.iadd, 1) := by decide +kernel
theorem dX6_fill_63 : decode cX6_fill 63 = .ok (.iload 6, 2) := by decide +kernel
theorem dX6_fill_65 : decode cX6_fill 65 = .ok (.iadd, 1) := by decide +kernel
theorem dX6_fill_66 : decode cX6_fill 66 = .ok (.iaload, 1) := by decide +kernel
theorem dX6_fill_67 : decode cX6_fill 67 = .ok (.istore 7, 2) := by decide +kernel
theorem dX6_fill_69 : decode cX6_fill 69 = .ok (.aload_n 0, 1) := by decide +kernel
theorem dX6_fill_70 : decode cX6_fill 70 = .ok (.getfield 60, 3) := by decide +kernel
theorem dX6_fill_73 : decode cX6_fill 73 = .ok (.bipush 13, 2) := by decide +kernel
theorem dX6_fill_75 : decode cX6_fill 75 = .ok (.iload 5, 2) := by decide +kernel
theorem dX6_fill_77 : decode cX6_fill 77 = .ok (.imul, 1) := by decide +kernel
theorem dX6_fill_78 : decode cX6_fill 78 = .ok (.iload 6, 2) := by decide +kernel
theorem dX6_fill_80 : decode cX6_fill 80 = .ok (.iadd, 1) := by decide +kernel
theorem dX6_fill_81 : decode cX6_fill 81 = .ok (.iconst 1, 1) := by decide +kernel
theorem dX6_fill_82 : decode cX6_fill 82 = .ok (.iadd, 1) := by decide +kernel
theorem dX6_fill_83 : decode cX6_fill 83 = .ok (.iaload, 1) := by decide +kernel
theorem dX6_fill_84 : decode cX6_fill 84 = .ok (.istore 8, 2) := by decide +kernel
theorem dX6_fill_86 : decode cX6_fill 86 = .ok (.iconst 1, 1) := by decide +kernel
theorem dX6_fill_87 : decode cX6_fill 87 = .ok (.aload_n 0, 1) := by decide +kernel
theorem dX6_fill_88 : decode cX6_fill 88 = .ok (.getfield 60, 3) := by decide +kernel
theorem dX6_fill_91 : decode cX6_fill 91 = .ok (.bipush 13, 2) := by decide +kernel
theorem dX6_fill_93 : decode cX6_fill 93 = .ok (.iload 5, 2) := by decide +kernel
theorem dX6_fill_95 : decode cX6_fill 95 = .ok (.imul, 1) := by decide +kernel
theorem dX6_fill_96 : decode cX6_fill 96 = .ok (.bipush 13, 2) := by decide +kernel
theorem dX6_fill_98 : decode cX6_fill 98 = .ok (.iadd, 1) := by decide +kernel
theorem dX6_fill_99 : decode cX6_fill 99 = .ok (.iload 6, 2) := by decide +kernel
theorem dX6_fill_101 : decode cX6_fill 101 = .ok (.iadd, 1) := by decide +kernel
theorem dX6_fill_102 : decode cX6_fill 102 = .ok (.iconst 1, 1) := by decide +kernel
theorem dX6_fill_103 : decode cX6_fill 103 = .ok (.iadd, 1) := by decide +kernel
theorem dX6_fill_104 : decode cX6_fill 104 = .ok (.iaload, 1) := by decide +kernel
theorem dX6_fill_105 : decode cX6_fill 105 = .ok (.iadd, 1) := by decide +kernel
theorem dX6_fill_106 : decode cX6_fill 106 = .ok (.istore 9, 2) := by decide +kernel
theorem dX6_fill_108 : decode cX6_fill 108 = .ok (.aload_n 0, 1) := by decide +kernel
theorem dX6_fill_109 : decode cX6_fill 109 = .ok (.getfield 60, 3) := by decide +kernel
theorem dX6_fill_112 : decode cX6_fill 112 = .ok (.bipush 13, 2) := by decide +kernel
theorem dX6_fill_114 : decode cX6_fill 114 = .ok (.iload 5, 2) := by decide +kernel
theorem dX6_fill_116 : decode cX6_fill 116 = .ok (.imul, 1) := by decide +kernel
theorem dX6_fill_117 : decode cX6_fill 117 = .ok (.iload 6, 2) := by decide +kernel
theorem dX6_fill_119 : decode cX6_fill 119 = .ok (.iadd, 1) := by decide +kernel
theorem dX6_fill_120 : decode cX6_fill 120 = .ok (.lload_n 1, 1) := by decide +kernel
theorem dX6_fill_121 : decode cX6_fill 121 = .ok (.iload 5, 2) := by decide +kernel
theorem dX6_fill_123 : decode cX6_fill 123 = .ok (.invokestatic 84, 3) := by decide +kernel
theorem dX6_fill_126 : decode cX6_fill 126 = .ok (.lload_n 3, 1) := by decide +kernel
theorem dX6_fill_127 : decode cX6_fill 127 = .ok (.iload 6, 2) := by decide +kernel
theorem dX6_fill_129 : decode cX6_fill 129 = .ok (.invokestatic 84, 3) := by decide +kernel
theorem dX6_fill_132 : decode cX6_fill 132 = .ok (.if_icmp .ne 8, 3) := by decide +kernel
theorem dX6_fill_135 : decode cX6_fill 135 = .ok (.iload 9, 2) := by decide +kernel
theorem dX6_fill_137 : decode cX6_fill 137 = .ok (.goto 17, 3) := by decide +kernel
theorem dX6_fill_140 : decode cX6_fill 140 = .ok (.iload 7, 2) := by decide +kernel
theorem dX6_fill_142 : decode cX6_fill 142 = .ok (.iload 8, 2) := by decide +kernel
theorem dX6_fill_144 : decode cX6_fill 144 = .ok (.if_icmp .le 8, 3) := by decide +kernel
theorem dX6_fill_147 : decode cX6_fill 147 = .ok (.iload 7, 2) := by decide +kernel
theorem dX6_fill_149 : decode cX6_fill 149 = .ok (.goto 5, 3) := by decide +kernel
theorem dX6_fill_152 : decode cX6_fill 152 = .ok (.iload 8, 2) := by decide +kernel
theorem dX6_fill_154 : decode cX6_fill 154 = .ok (.iastore, 1) := by decide +kernel
theorem dX6_fill_155 : decode cX6_fill 155 = .ok (.iinc 6 (-1), 3) := by decide +kernel
theorem dX6_fill_158 : decode cX6_fill 158 = .ok (.goto (-112), 3) := by decide +kernel
theorem dX6_fill_161 : decode cX6_fill 161 = .ok (.iinc 5 (-1), 3) := by decide +kernel
theorem dX6_fill_164 : decode cX6_fill 164 = .ok (.goto (-131), 3) := by decide +kernel
theorem dX6_fill_167 : decode cX6_fill 167 = .ok (.return_, 1) := by decide +kernel
theorem dX6_alike_0 : decode cX6_alike 0 = .ok (.iload_n 3, 1) := by decide +kernel
theorem dX6_alike_1 : decode cX6_alike 1 = .ok (.iload_n 2, 1) := by decide +kernel
theorem dX6_alike_2 : decode cX6_alike 2 = .ok (.isub, 1) := by decide +kernel
theorem dX6_alike_3 : decode cX6_alike 3 = .ok (.iload 7, 2) := by decide +kernel
theorem dX6_alike_5 : decode cX6_alike 5 = .ok (.iload 6, 2) := by decide +kernel
theorem dX6_alike_7 : decode cX6_alike 7 = .ok (.isub, 1) := by decide +kernel
theorem dX6_alike_8 : decode cX6_alike 8 = .ok (.if_icmp .ne 7, 3) := by decide +kernel
theorem dX6_alike_11 : decode cX6_alike 11 = .ok (.iconst 1, 1) := by decide +kernel
theorem dX6_alike_12 : decode cX6_alike 12 = .ok (.goto 4, 3) := by decide +kernel
theorem dX6_alike_15 : decode cX6_alike 15 = .ok (.iconst 0, 1) := by decide +kernel
theorem dX6_alike_16 : decode cX6_alike 16 = .ok (.istore 8, 2) := by decide +kernel
theorem dX6_alike_18 : decode cX6_alike 18 = .ok (.iconst 0, 1) := by decide +kernel
theorem dX6_alike_19 : decode cX6_alike 19 = .ok (.istore 9, 2) := by decide +kernel
theorem dX6_alike_21 : decode cX6_alike 21 = .ok (.iload 9, 2) := by decide +kernel
theorem dX6_alike_23 : decode cX6_alike 23 = .ok (.iload_n 3, 1) := by decide +kernel
theorem dX6_alike_24 : decode cX6_alike 24 = .ok (.iload_n 2, 1) := by decide +kernel
theorem dX6_alike_25 : decode cX6_alike 25 = .ok (.isub, 1) := by decide +kernel
theorem dX6_alike_26 : decode cX6_alike 26 = .ok (.if_icmp .ge 42, 3) := by decide +kernel
theorem dX6_alike_29 : decode cX6_alike 29 = .ok (.iload 8, 2) := by decide +kernel
theorem dX6_alike_31 : decode cX6_alike 31 = .ok (.ifCond .eq 37, 3) := by decide +kernel
theorem dX6_alike_34 : decode cX6_alike 34 = .ok (.lload_n 0, 1) := by decide +kernel
theorem dX6_alike_35 : decode cX6_alike 35 = .ok (.iload_n 2, 1) := by decide +kernel
theorem dX6_alike_36 : decode cX6_alike 36 = .ok (.iload 9, 2) := by decide +kernel
theorem dX6_alike_38 : decode cX6_alike 38 = .ok (.iadd, 1) := by decide +kernel
theorem dX6_alike_39 : decode cX6_alike 39 = .ok (.invokestatic 84, 3) := by decide +kernel
theorem dX6_alike_42 : decode cX6_alike 42 = .ok (.lload 4, 2) := by decide +kernel
theorem dX6_alike_44 : decode cX6_alike 44 = .ok (.iload 6, 2) := by decide +kernel
theorem dX6_alike_46 : decode cX6_alike 46 = .ok (.iload 9, 2) := by decide +kernel
theorem dX6_alike_48 : decode cX6_alike 48 = .ok (.iadd, 1) := by decide +kernel
theorem dX6_alike_49 : decode cX6_alike 49 = .ok (.invokestatic 84, 3) := by decide +kernel
theorem dX6_alike_52 : decode cX6_alike 52 = .ok (.if_icmp .ne 7, 3) := by decide +kernel
theorem dX6_alike_55 : decode cX6_alike 55 = .ok (.iconst 1, 1) := by decide +kernel
theorem dX6_alike_56 : decode cX6_alike 56 = .ok (.goto 4, 3) := by decide +kernel
theorem dX6_alike_59 : decode cX6_alike 59 = .ok (.iconst 0, 1) := by decide +kernel
theorem dX6_alike_60 : decode cX6_alike 60 = .ok (.istore 8, 2) := by decide +kernel
theorem dX6_alike_62 : decode cX6_alike 62 = .ok (.iinc 9 1, 3) := by decide +kernel
theorem dX6_alike_65 : decode cX6_alike 65 = .ok (.goto (-44), 3) := by decide +kernel
theorem dX6_alike_68 : decode cX6_alike 68 = .ok (.iload 8, 2) := by decide +kernel
theorem dX6_alike_70 : decode cX6_alike 70 = .ok (.ireturn, 1) := by decide +kernel
theorem dX6_putAll_0 : decode cX6_putAll 0 = .ok (.iload_n 3, 1) := by decide +kernel
theorem dX6_putAll_1 : decode cX6_putAll 1 = .ok (.istore 5, 2) := by decide +kernel
theorem dX6_putAll_3 : decode cX6_putAll 3 = .ok (.iload 5, 2) := by decide +kernel
theorem dX6_putAll_5 : decode cX6_putAll 5 = .ok (.iload 4, 2) := by decide +kernel
theorem dX6_putAll_7 : decode cX6_putAll 7 = .ok (.if_icmp .ge 19, 3) := by decide +kernel
theorem dX6_putAll_10 : decode cX6_putAll 10 = .ok (.aload_n 0, 1) := by decide +kernel
theorem dX6_putAll_11 : decode cX6_putAll 11 = .ok (.lload_n 1, 1) := by decide +kernel
theorem dX6_putAll_12 : decode cX6_putAll 12 = .ok (.iload 5, 2) := by decide +kernel
theorem dX6_putAll_14 : decode cX6_putAll 14 = .ok (.invokestatic 84, 3) := by decide +kernel
theorem dX6_putAll_17 : decode cX6_putAll 17 = .ok (.invokevirtual 96, 3) := by decide +kernel
theorem dX6_putAll_20 : decode cX6_putAll 20 = .ok (.iinc 5 1, 3) := by decide +kernel
theorem dX6_putAll_23 : decode cX6_putAll 23 = .ok (.goto (-20), 3) := by decide +kernel
theorem dX6_putAll_26 : decode cX6_putAll 26 = .ok (.return_, 1) := by decide +kernel
theorem dX6_put_0 : decode cX6_put 0 = .ok (.aload_n 0, 1) := by decide +kernel
theorem dX6_put_1 : decode cX6_put 1 = .ok (.getfield 92, 3) := by decide +kernel
theorem dX6_put_4 : decode cX6_put 4 = .ok (.bipush 64, 2) := by decide +kernel
theorem dX6_put_6 : decode cX6_put 6 = .ok (.if_icmp .ge 13, 3) := by decide +kernel
theorem dX6_put_9 : decode cX6_put 9 = .ok (.aload_n 0, 1) := by decide +kernel
theorem dX6_put_10 : decode cX6_put 10 = .ok (.getfield 69, 3) := by decide +kernel
theorem dX6_put_13 : decode cX6_put 13 = .ok (.aload_n 0, 1) := by decide +kernel
theorem dX6_put_14 : decode cX6_put 14 = .ok (.getfield 92, 3) := by decide +kernel
theorem dX6_put_17 : decode cX6_put 17 = .ok (.iload_n 1, 1) := by decide +kernel
theorem dX6_put_18 : decode cX6_put 18 = .ok (.iastore, 1) := by decide +kernel
theorem dX6_put_19 : decode cX6_put 19 = .ok (.aload_n 0, 1) := by decide +kernel
theorem dX6_put_20 : decode cX6_put 20 = .ok (.dup, 1) := by decide +kernel
theorem dX6_put_21 : decode cX6_put 21 = .ok (.getfield 92, 3) := by decide +kernel
theorem dX6_put_24 : decode cX6_put 24 = .ok (.iconst 1, 1) := by decide +kernel
theorem dX6_put_25 : decode cX6_put 25 = .ok (.iadd, 1) := by decide +kernel
theorem dX6_put_26 : decode cX6_put 26 = .ok (.putfield 92, 3) := by decide +kernel
theorem dX6_put_29 : decode cX6_put 29 = .ok (.return_, 1) := by decide +kernel
theorem dX6_mergedText_0 : decode cX6_mergedText 0 = .ok (.lconst 0, 1) := by decide +kernel
theorem dX6_mergedText_1 : decode cX6_mergedText 1 = .ok (.lstore_n 1, 1) := by decide +kernel
theorem dX6_mergedText_2 : decode cX6_mergedText 2 = .ok (.iconst 0, 1) := by decide +kernel
theorem dX6_mergedText_3 : decode cX6_mergedText 3 = .ok (.istore_n 3, 1) := by decide +kernel
theorem dX6_mergedText_4 : decode cX6_mergedText 4 = .ok (.iload_n 3, 1) := by decide +kernel
theorem dX6_mergedText_5 : decode cX6_mergedText 5 = .ok (.aload_n 0, 1) := by decide +kernel
theorem dX6_mergedText_6 : decode cX6_mergedText 6 = .ok (.getfield 92, 3) := by decide +kernel
theorem dX6_mergedText_9 : decode cX6_mergedText 9 = .ok (.if_icmp .ge 23, 3) := by decide +kernel
theorem dX6_mergedText_12 : decode cX6_mergedText 12 = .ok (.ldc2_w 76, 3) := by decide +kernel
theorem dX6_mergedText_15 : decode cX6_mergedText 15 = .ok (.lload_n 1, 1) := by decide +kernel
theorem dX6_mergedText_16 : decode cX6_mergedText 16 = .ok (.lmul, 1) := by decide +kernel
theorem dX6_mergedText_17 : decode cX6_mergedText 17 = .ok (.aload_n 0, 1) := by decide +kernel
theorem dX6_mergedText_18 : decode cX6_mergedText 18 = .ok (.getfield 69, 3) := by decide +kernel
theorem dX6_mergedText_21 : decode cX6_mergedText 21 = .ok (.iload_n 3, 1) := by decide +kernel
theorem dX6_mergedText_22 : decode cX6_mergedText 22 = .ok (.iaload, 1) := by decide +kernel
theorem dX6_mergedText_23 : decode cX6_mergedText 23 = .ok (.i2l, 1) := by decide +kernel
theorem dX6_mergedText_24 : decode cX6_mergedText 24 = .ok (.ladd, 1) := by decide +kernel
theorem dX6_mergedText_25 : decode cX6_mergedText 25 = .ok (.lstore_n 1, 1) := by decide +kernel
theorem dX6_mergedText_26 : decode cX6_mergedText 26 = .ok (.iinc 3 1, 3) := by decide +kernel
theorem dX6_mergedText_29 : decode cX6_mergedText 29 = .ok (.goto (-25), 3) := by decide +kernel
theorem dX6_mergedText_32 : decode cX6_mergedText 32 = .ok (.lload_n 1, 1) := by decide +kernel
theorem dX6_mergedText_33 : decode cX6_mergedText 33 = .ok (.lreturn, 1) := by decide +kernel
theorem dX6_tag_0 : decode cX6_tag 0 = .ok (.iload_n 1, 1) := by decide +kernel
theorem dX6_tag_1 : decode cX6_tag 1 = .ok (.iload_n 2, 1) := by decide +kernel
theorem dX6_tag_2 : decode cX6_tag 2 = .ok (.invokestatic 120, 3) := by decide +kernel
theorem dX6_tag_5 : decode cX6_tag 5 = .ok (.ifCond .ne 24, 3) := by decide +kernel
theorem dX6_tag_8 : decode cX6_tag 8 = .ok (.iload_n 3, 1) := by decide +kernel
theorem dX6_tag_9 : decode cX6_tag 9 = .ok (.iconst 5, 1) := by decide +kernel
theorem dX6_tag_10 : decode cX6_tag 10 = .ok (.invokestatic 72, 3) := by decide +kernel
theorem dX6_tag_13 : decode cX6_tag 13 = .ok (.ifCond .eq 16, 3) := by decide +kernel
theorem dX6_tag_16 : decode cX6_tag 16 = .ok (.aload_n 0, 1) := by decide +kernel
theorem dX6_tag_17 : decode cX6_tag 17 = .ok (.getfield 48, 3) := by decide +kernel
theorem dX6_tag_20 : decode cX6_tag 20 = .ok (.iconst 4, 1) := by decide +kernel
theorem dX6_tag_21 : decode cX6_tag 21 = .ok (.iload_n 1, 1) := by decide +kernel
theorem dX6_tag_22 : decode cX6_tag 22 = .ok (.imul, 1) := by decide +kernel
theorem dX6_tag_23 : decode cX6_tag 23 = .ok (.iload_n 2, 1) := by decide +kernel
theorem dX6_tag_24 : decode cX6_tag 24 = .ok (.iadd, 1) := by decide +kernel
theorem dX6_tag_25 : decode cX6_tag 25 = .ok (.iaload, 1) := by decide +kernel
theorem dX6_tag_26 : decode cX6_tag 26 = .ok (.ifCond .ge 5, 3) := by decide +kernel
theorem dX6_tag_29 : decode cX6_tag 29 = .ok (.iconst 0, 1) := by decide +kernel
theorem dX6_tag_30 : decode cX6_tag 30 = .ok (.ireturn, 1) := by decide +kernel
theorem dX6_tag_31 : decode cX6_tag 31 = .ok (.iload 4, 2) := by decide +kernel
theorem dX6_tag_33 : decode cX6_tag 33 = .ok (.ifCond .eq 7, 3) := by decide +kernel
theorem dX6_tag_36 : decode cX6_tag 36 = .ok (.iconst 2, 1) := by decide +kernel
theorem dX6_tag_37 : decode cX6_tag 37 = .ok (.goto 4, 3) := by decide +kernel
theorem dX6_tag_40 : decode cX6_tag 40 = .ok (.iconst 1, 1) := by decide +kernel
theorem dX6_tag_41 : decode cX6_tag 41 = .ok (.istore 5, 2) := by decide +kernel
theorem dX6_tag_43 : decode cX6_tag 43 = .ok (.aload_n 0, 1) := by decide +kernel
theorem dX6_tag_44 : decode cX6_tag 44 = .ok (.getfield 45, 3) := by decide +kernel
theorem dX6_tag_47 : decode cX6_tag 47 = .ok (.iconst 5, 1) := by decide +kernel
theorem dX6_tag_48 : decode cX6_tag 48 = .ok (.iload_n 2, 1) := by decide +kernel
theorem dX6_tag_49 : decode cX6_tag 49 = .ok (.imul, 1) := by decide +kernel
theorem dX6_tag_50 : decode cX6_tag 50 = .ok (.iload_n 3, 1) := by decide +kernel
theorem dX6_tag_51 : decode cX6_tag 51 = .ok (.iadd, 1) := by decide +kernel
theorem dX6_tag_52 : decode cX6_tag 52 = .ok (.iaload, 1) := by decide +kernel
theorem dX6_tag_53 : decode cX6_tag 53 = .ok (.iconst (-1), 1) := by decide +kernel
theorem dX6_tag_54 : decode cX6_tag 54 = .ok (.if_icmp .eq 7, 3) := by decide +kernel
theorem dX6_tag_57 : decode cX6_tag 57 = .ok (.iconst 1, 1) := by decide +kernel
theorem dX6_tag_58 : decode cX6_tag 58 = .ok (.goto 4, 3) := by decide +kernel
theorem dX6_tag_61 : decode cX6_tag 61 = .ok (.iconst 0, 1) := by decide +kernel
theorem dX6_tag_62 : decode cX6_tag 62 = .ok (.istore 6, 2) := by decide +kernel
theorem dX6_tag_64 : decode cX6_tag 64 = .ok (.aload_n 0, 1) := by decide +kernel
theorem dX6_tag_65 : decode cX6_tag 65 = .ok (.getfield 42, 3) := by decide +kernel
theorem dX6_tag_68 : decode cX6_tag 68 = .ok (.iload_n 3, 1) := by decide +kernel
theorem dX6_tag_69 : decode cX6_tag 69 = .ok (.iaload, 1) := by decide +kernel
theorem dX6_tag_70 : decode cX6_tag 70 = .ok (.ifCond .eq 14, 3) := by decide +kernel
theorem dX6_tag_73 : decode cX6_tag 73 = .ok (.aload_n 0, 1) := by decide +kernel
theorem dX6_tag_74 : decode cX6_tag 74 = .ok (.getfield 42, 3) := by decide +kernel
theorem dX6_tag_77 : decode cX6_tag 77 = .ok (.iload_n 3, 1) := by decide +kernel
theorem dX6_tag_78 : decode cX6_tag 78 = .ok (.iaload, 1) := by decide +kernel
theorem dX6_tag_79 : decode cX6_tag 79 = .ok (.iload 5, 2) := by decide +kernel
theorem dX6_tag_81 : decode cX6_tag 81 = .ok (.if_icmp .ne 23, 3) := by decide +kernel
theorem dX6_tag_84 : decode cX6_tag 84 = .ok (.iload 4, 2) := by decide +kernel
theorem dX6_tag_86 : decode cX6_tag 86 = .ok (.ifCond .eq 20, 3) := by decide +kernel
theorem dX6_tag_89 : decode cX6_tag 89 = .ok (.iload 6, 2) := by decide +kernel
theorem dX6_tag_91 : decode cX6_tag 91 = .ok (.ifCond .ne 13, 3) := by decide +kernel
theorem dX6_tag_94 : decode cX6_tag 94 = .ok (.aload_n 0, 1) := by decide +kernel
theorem dX6_tag_95 : decode cX6_tag 95 = .ok (.getfield 27, 3) := by decide +kernel
theorem dX6_tag_98 : decode cX6_tag 98 = .ok (.iload_n 2, 1) := by decide +kernel
theorem dX6_tag_99 : decode cX6_tag 99 = .ok (.iaload, 1) := by decide +kernel
theorem dX6_tag_100 : decode cX6_tag 100 = .ok (.iconst 5, 1) := by decide +kernel
theorem dX6_tag_101 : decode cX6_tag 101 = .ok (.if_icmp .ne 5, 3) := by decide +kernel
theorem dX6_tag_104 : decode cX6_tag 104 = .ok (.iconst 0, 1) := by decide +kernel
theorem dX6_tag_105 : decode cX6_tag 105 = .ok (.ireturn, 1) := by decide +kernel
theorem dX6_tag_106 : decode cX6_tag 106 = .ok (.aload_n 0, 1) := by decide +kernel
theorem dX6_tag_107 : decode cX6_tag 107 = .ok (.getfield 48, 3) := by decide +kernel
theorem dX6_tag_110 : decode cX6_tag 110 = .ok (.iconst 4, 1) := by decide +kernel
theorem dX6_tag_111 : decode cX6_tag 111 = .ok (.iload_n 1, 1) := by decide +kernel
theorem dX6_tag_112 : decode cX6_tag 112 = .ok (.imul, 1) := by decide +kernel
theorem dX6_tag_113 : decode cX6_tag 113 = .ok (.iload_n 2, 1) := by decide +kernel
theorem dX6_tag_114 : decode cX6_tag 114 = .ok (.iadd, 1) := by decide +kernel
theorem dX6_tag_115 : decode cX6_tag 115 = .ok (.iaload, 1) := by decide +kernel
theorem dX6_tag_116 : decode cX6_tag 116 = .ok (.istore 7, 2) := by decide +kernel
theorem dX6_tag_118 : decode cX6_tag 118 = .ok (.aload_n 0, 1) := by decide +kernel
theorem dX6_tag_119 : decode cX6_tag 119 = .ok (.getfield 42, 3) := by decide +kernel
theorem dX6_tag_122 : decode cX6_tag 122 = .ok (.iload_n 3, 1) := by decide +kernel
theorem dX6_tag_123 : decode cX6_tag 123 = .ok (.iload 5, 2) := by decide +kernel
theorem dX6_tag_125 : decode cX6_tag 125 = .ok (.iastore, 1) := by decide +kernel
theorem dX6_tag_126 : decode cX6_tag 126 = .ok (.aload_n 0, 1) := by decide +kernel
theorem dX6_tag_127 : decode cX6_tag 127 = .ok (.getfield 45, 3) := by decide +kernel
theorem dX6_tag_130 : decode cX6_tag 130 = .ok (.iconst 5, 1) := by decide +kernel
theorem dX6_tag_131 : decode cX6_tag 131 = .ok (.iload_n 2, 1) := by decide +kernel
theorem dX6_tag_132 : decode cX6_tag 132 = .ok (.imul, 1) := by decide +kernel
theorem dX6_tag_133 : decode cX6_tag 133 = .ok (.iload_n 3, 1) := by decide +kernel
theorem dX6_tag_134 : decode cX6_tag 134 = .ok (.iadd, 1) := by decide +kernel
theorem dX6_tag_135 : decode cX6_tag 135 = .ok (.iload 4, 2) := by decide +kernel
theorem dX6_tag_137 : decode cX6_tag 137 = .ok (.ifCond .eq 20, 3) := by decide +kernel
theorem dX6_tag_140 : decode cX6_tag 140 = .ok (.aload_n 0, 1) := by decide +kernel
theorem dX6_tag_141 : decode cX6_tag 141 = .ok (.iload_n 2, 1) := by decide +kernel
theorem dX6_tag_142 : decode cX6_tag 142 = .ok (.iload 7, 2) := by decide +kernel
theorem dX6_tag_144 : decode cX6_tag 144 = .ok (.aload_n 0, 1) := by decide +kernel
theorem dX6_tag_145 : decode cX6_tag 145 = .ok (.iload_n 2, 1) := by decide +kernel
theorem dX6_tag_146 : decode cX6_tag 146 = .ok (.iload 7, 2) := by decide +kernel
theorem dX6_tag_148 : decode cX6_tag 148 = .ok (.invokevirtual 150, 3) := by decide +kernel
theorem dX6_tag_151 : decode cX6_tag 151 = .ok (.invokevirtual 153, 3) := by decide +kernel
theorem dX6_tag_154 : decode cX6_tag 154 = .ok (.goto 5, 3) := by decide +kernel
theorem dX6_tag_157 : decode cX6_tag 157 = .ok (.iload 7, 2) := by decide +kernel
theorem dX6_tag_159 : decode cX6_tag 159 = .ok (.iastore, 1) := by decide +kernel
theorem dX6_tag_160 : decode cX6_tag 160 = .ok (.iconst 1, 1) := by decide +kernel
theorem dX6_tag_161 : decode cX6_tag 161 = .ok (.ireturn, 1) := by decide +kernel
