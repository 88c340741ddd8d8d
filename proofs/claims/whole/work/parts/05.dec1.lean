/-! what the bytes say -/
theorem dX2_openBranchWith_0 : decode cX2_openBranchWith 0 = .ok (.aload_n 0, 1) := by decide +kernel
theorem dX2_openBranchWith_1 : decode cX2_openBranchWith 1 = .ok (.getfield 45, 3) := by decide +kernel
theorem dX2_openBranchWith_4 : decode cX2_openBranchWith 4 = .ok (.istore_n 3, 1) := by decide +kernel
theorem dX2_openBranchWith_5 : decode cX2_openBranchWith 5 = .ok (.aload_n 0, 1) := by decide +kernel
theorem dX2_openBranchWith_6 : decode cX2_openBranchWith 6 = .ok (.dup, 1) := by decide +kernel
theorem dX2_openBranchWith_7 : decode cX2_openBranchWith 7 = .ok (.getfield 45, 3) := by decide +kernel
theorem dX2_openBranchWith_10 : decode cX2_openBranchWith 10 = .ok (.iconst 1, 1) := by decide +kernel
theorem dX2_openBranchWith_11 : decode cX2_openBranchWith 11 = .ok (.iadd, 1) := by decide +kernel
theorem dX2_openBranchWith_12 : decode cX2_openBranchWith 12 = .ok (.putfield 45, 3) := by decide +kernel
theorem dX2_openBranchWith_15 : decode cX2_openBranchWith 15 = .ok (.aload_n 0, 1) := by decide +kernel
theorem dX2_openBranchWith_16 : decode cX2_openBranchWith 16 = .ok (.getfield 33, 3) := by decide +kernel
theorem dX2_openBranchWith_19 : decode cX2_openBranchWith 19 = .ok (.iload_n 3, 1) := by decide +kernel
theorem dX2_openBranchWith_20 : decode cX2_openBranchWith 20 = .ok (.iload_n 1, 1) := by decide +kernel
theorem dX2_openBranchWith_21 : decode cX2_openBranchWith 21 = .ok (.iastore, 1) := by decide +kernel
theorem dX2_openBranchWith_22 : decode cX2_openBranchWith 22 = .ok (.aload_n 0, 1) := by decide +kernel
theorem dX2_openBranchWith_23 : decode cX2_openBranchWith 23 = .ok (.getfield 36, 3) := by decide +kernel
theorem dX2_openBranchWith_26 : decode cX2_openBranchWith 26 = .ok (.iload_n 3, 1) := by decide +kernel
theorem dX2_openBranchWith_27 : decode cX2_openBranchWith 27 = .ok (.iload_n 2, 1) := by decide +kernel
theorem dX2_openBranchWith_28 : decode cX2_openBranchWith 28 = .ok (.iastore, 1) := by decide +kernel
theorem dX2_openBranchWith_29 : decode cX2_openBranchWith 29 = .ok (.aload_n 0, 1) := by decide +kernel
theorem dX2_openBranchWith_30 : decode cX2_openBranchWith 30 = .ok (.getfield 42, 3) := by decide +kernel
theorem dX2_openBranchWith_33 : decode cX2_openBranchWith 33 = .ok (.iload_n 3, 1) := by decide +kernel
theorem dX2_openBranchWith_34 : decode cX2_openBranchWith 34 = .ok (.iload_n 1, 1) := by decide +kernel
theorem dX2_openBranchWith_35 : decode cX2_openBranchWith 35 = .ok (.iastore, 1) := by decide +kernel
theorem dX2_openBranchWith_36 : decode cX2_openBranchWith 36 = .ok (.iload_n 3, 1) := by decide +kernel
theorem dX2_openBranchWith_37 : decode cX2_openBranchWith 37 = .ok (.ireturn, 1) := by decide +kernel
theorem dX5_commitText_0 : decode cX5_commitText 0 = .ok (.aload_n 0, 1) := by decide +kernel
theorem dX5_commitText_1 : decode cX5_commitText 1 = .ok (.aload_n 1, 1) := by decide +kernel
theorem dX5_commitText_2 : decode cX5_commitText 2 = .ok (.invokestatic 205, 3) := by decide +kernel
theorem dX5_commitText_5 : decode cX5_commitText 5 = .ok (.istore_n 2, 1) := by decide +kernel
theorem dX5_commitText_6 : decode cX5_commitText 6 = .ok (.aload_n 1, 1) := by decide +kernel
theorem dX5_commitText_7 : decode cX5_commitText 7 = .ok (.iload_n 2, 1) := by decide +kernel
theorem dX5_commitText_8 : decode cX5_commitText 8 = .ok (.aload_n 0, 1) := by decide +kernel
theorem dX5_commitText_9 : decode cX5_commitText 9 = .ok (.getfield 72, 3) := by decide +kernel
theorem dX5_commitText_12 : decode cX5_commitText 12 = .ok (.iconst 0, 1) := by decide +kernel
theorem dX5_commitText_13 : decode cX5_commitText 13 = .ok (.invokevirtual 141, 3) := by decide +kernel
theorem dX5_commitText_16 : decode cX5_commitText 16 = .ok (.istore_n 3, 1) := by decide +kernel
theorem dX5_commitText_17 : decode cX5_commitText 17 = .ok (.aload_n 0, 1) := by decide +kernel
theorem dX5_commitText_18 : decode cX5_commitText 18 = .ok (.iload_n 3, 1) := by decide +kernel
theorem dX5_commitText_19 : decode cX5_commitText 19 = .ok (.aload_n 0, 1) := by decide +kernel
theorem dX5_commitText_20 : decode cX5_commitText 20 = .ok (.getfield 72, 3) := by decide +kernel
theorem dX5_commitText_23 : decode cX5_commitText 23 = .ok (.invokevirtual 62, 3) := by decide +kernel
theorem dX5_commitText_26 : decode cX5_commitText 26 = .ok (.iload_n 3, 1) := by decide +kernel
theorem dX5_commitText_27 : decode cX5_commitText 27 = .ok (.ireturn, 1) := by decide +kernel
theorem dX5_update_0 : decode cX5_update 0 = .ok (.iload_n 1, 1) := by decide +kernel
theorem dX5_update_1 : decode cX5_update 1 = .ok (.invokestatic 41, 3) := by decide +kernel
theorem dX5_update_4 : decode cX5_update 4 = .ok (.ifCond .eq 18, 3) := by decide +kernel
theorem dX5_update_7 : decode cX5_update 7 = .ok (.iload_n 2, 1) := by decide +kernel
theorem dX5_update_8 : decode cX5_update 8 = .ok (.invokestatic 45, 3) := by decide +kernel
theorem dX5_update_11 : decode cX5_update 11 = .ok (.ifCond .eq 11, 3) := by decide +kernel
theorem dX5_update_14 : decode cX5_update 14 = .ok (.aload_n 0, 1) := by decide +kernel
theorem dX5_update_15 : decode cX5_update 15 = .ok (.iload_n 3, 1) := by decide +kernel
theorem dX5_update_16 : decode cX5_update 16 = .ok (.invokevirtual 99, 3) := by decide +kernel
theorem dX5_update_19 : decode cX5_update 19 = .ok (.ifCond .ne 5, 3) := by decide +kernel
theorem dX5_update_22 : decode cX5_update 22 = .ok (.iconst (-1), 1) := by decide +kernel
theorem dX5_update_23 : decode cX5_update 23 = .ok (.ireturn, 1) := by decide +kernel
theorem dX5_update_24 : decode cX5_update 24 = .ok (.aload_n 0, 1) := by decide +kernel
theorem dX5_update_25 : decode cX5_update 25 = .ok (.iload_n 1, 1) := by decide +kernel
theorem dX5_update_26 : decode cX5_update 26 = .ok (.iload_n 2, 1) := by decide +kernel
theorem dX5_update_27 : decode cX5_update 27 = .ok (.invokevirtual 48, 3) := by decide +kernel
theorem dX5_update_30 : decode cX5_update 30 = .ok (.astore 4, 2) := by decide +kernel
theorem dX5_update_32 : decode cX5_update 32 = .ok (.aload_n 0, 1) := by decide +kernel
theorem dX5_update_33 : decode cX5_update 33 = .ok (.getfield 11, 3) := by decide +kernel
theorem dX5_update_36 : decode cX5_update 36 = .ok (.iload_n 2, 1) := by decide +kernel
theorem dX5_update_37 : decode cX5_update 37 = .ok (.aaload, 1) := by decide +kernel
theorem dX5_update_38 : decode cX5_update 38 = .ok (.astore 5, 2) := by decide +kernel
theorem dX5_update_40 : decode cX5_update 40 = .ok (.aload 4, 2) := by decide +kernel
theorem dX5_update_42 : decode cX5_update 42 = .ok (.iload_n 3, 1) := by decide +kernel
theorem dX5_update_43 : decode cX5_update 43 = .ok (.invokestatic 102, 3) := by decide +kernel
theorem dX5_update_46 : decode cX5_update 46 = .ok (.istore 6, 2) := by decide +kernel
theorem dX5_update_48 : decode cX5_update 48 = .ok (.aload_n 0, 1) := by decide +kernel
theorem dX5_update_49 : decode cX5_update 49 = .ok (.aload 4, 2) := by decide +kernel
theorem dX5_update_51 : decode cX5_update 51 = .ok (.aload 5, 2) := by decide +kernel
theorem dX5_update_53 : decode cX5_update 53 = .ok (.aload_n 0, 1) := by decide +kernel
theorem dX5_update_54 : decode cX5_update 54 = .ok (.aload 5, 2) := by decide +kernel
theorem dX5_update_56 : decode cX5_update 56 = .ok (.iload 6, 2) := by decide +kernel
theorem dX5_update_58 : decode cX5_update 58 = .ok (.invokevirtual 106, 3) := by decide +kernel
theorem dX5_update_61 : decode cX5_update 61 = .ok (.invokevirtual 110, 3) := by decide +kernel
theorem dX5_update_64 : decode cX5_update 64 = .ok (.istore 7, 2) := by decide +kernel
theorem dX5_update_66 : decode cX5_update 66 = .ok (.iload 7, 2) := by decide +kernel
theorem dX5_update_68 : decode cX5_update 68 = .ok (.iconst 3, 1) := by decide +kernel
theorem dX5_update_69 : decode cX5_update 69 = .ok (.if_icmp .eq 17, 3) := by decide +kernel
theorem dX5_update_72 : decode cX5_update 72 = .ok (.iload 7, 2) := by decide +kernel
theorem dX5_update_74 : decode cX5_update 74 = .ok (.bipush (-7), 2) := by decide +kernel
theorem dX5_update_76 : decode cX5_update 76 = .ok (.if_icmp .eq 10, 3) := by decide +kernel
theorem dX5_update_79 : decode cX5_update 79 = .ok (.aload 4, 2) := by decide +kernel
theorem dX5_update_81 : decode cX5_update 81 = .ok (.iload 6, 2) := by decide +kernel
theorem dX5_update_83 : decode cX5_update 83 = .ok (.putfield 114, 3) := by decide +kernel
theorem dX5_update_86 : decode cX5_update 86 = .ok (.iload 7, 2) := by decide +kernel
theorem dX5_update_88 : decode cX5_update 88 = .ok (.ireturn, 1) := by decide +kernel
theorem dX5_isStickyWish_0 : decode cX5_isStickyWish 0 = .ok (.iload_n 1, 1) := by decide +kernel
theorem dX5_isStickyWish_1 : decode cX5_isStickyWish 1 = .ok (.iconst (-1), 1) := by decide +kernel
theorem dX5_isStickyWish_2 : decode cX5_isStickyWish 2 = .ok (.if_icmp .eq 24, 3) := by decide +kernel
theorem dX5_isStickyWish_5 : decode cX5_isStickyWish 5 = .ok (.iload_n 1, 1) := by decide +kernel
theorem dX5_isStickyWish_6 : decode cX5_isStickyWish 6 = .ok (.iconst 5, 1) := by decide +kernel
theorem dX5_isStickyWish_7 : decode cX5_isStickyWish 7 = .ok (.if_icmp .eq 19, 3) := by decide +kernel
theorem dX5_isStickyWish_10 : decode cX5_isStickyWish 10 = .ok (.iload_n 1, 1) := by decide +kernel
theorem dX5_isStickyWish_11 : decode cX5_isStickyWish 11 = .ok (.invokestatic 118, 3) := by decide +kernel
theorem dX5_isStickyWish_14 : decode cX5_isStickyWish 14 = .ok (.ifCond .eq 16, 3) := by decide +kernel
theorem dX5_isStickyWish_17 : decode cX5_isStickyWish 17 = .ok (.aload_n 0, 1) := by decide +kernel
theorem dX5_isStickyWish_18 : decode cX5_isStickyWish 18 = .ok (.getfield 23, 3) := by decide +kernel
theorem dX5_isStickyWish_21 : decode cX5_isStickyWish 21 = .ok (.iload_n 1, 1) := by decide +kernel
theorem dX5_isStickyWish_22 : decode cX5_isStickyWish 22 = .ok (.iaload, 1) := by decide +kernel
theorem dX5_isStickyWish_23 : decode cX5_isStickyWish 23 = .ok (.ifCond .eq 7, 3) := by decide +kernel
theorem dX5_isStickyWish_26 : decode cX5_isStickyWish 26 = .ok (.iconst 1, 1) := by decide +kernel
theorem dX5_isStickyWish_27 : decode cX5_isStickyWish 27 = .ok (.goto 4, 3) := by decide +kernel
theorem dX5_isStickyWish_30 : decode cX5_isStickyWish 30 = .ok (.iconst 0, 1) := by decide +kernel
theorem dX5_isStickyWish_31 : decode cX5_isStickyWish 31 = .ok (.ireturn, 1) := by decide +kernel
theorem dX5_isTag_0 : decode cX5_isTag 0 = .ok (.iload_n 0, 1) := by decide +kernel
theorem dX5_isTag_1 : decode cX5_isTag 1 = .ok (.ifCond .lt 12, 3) := by decide +kernel
theorem dX5_isTag_4 : decode cX5_isTag 4 = .ok (.iload_n 0, 1) := by decide +kernel
theorem dX5_isTag_5 : decode cX5_isTag 5 = .ok (.iconst 5, 1) := by decide +kernel
theorem dX5_isTag_6 : decode cX5_isTag 6 = .ok (.if_icmp .ge 7, 3) := by decide +kernel
theorem dX5_isTag_9 : decode cX5_isTag 9 = .ok (.iconst 1, 1) := by decide +kernel
theorem dX5_isTag_10 : decode cX5_isTag 10 = .ok (.goto 4, 3) := by decide +kernel
theorem dX5_isTag_13 : decode cX5_isTag 13 = .ok (.iconst 0, 1) := by decide +kernel
theorem dX5_isTag_14 : decode cX5_isTag 14 = .ok (.ireturn, 1) := by decide +kernel
theorem dX5_wishedTag_0 : decode cX5_wishedTag 0 = .ok (.iload_n 1, 1) := by decide +kernel
theorem dX5_wishedTag_1 : decode cX5_wishedTag 1 = .ok (.iconst (-1), 1) := by decide +kernel
theorem dX5_wishedTag_2 : decode cX5_wishedTag 2 = .ok (.if_icmp .ne 8, 3) := by decide +kernel
theorem dX5_wishedTag_5 : decode cX5_wishedTag 5 = .ok (.aload_n 0, 1) := by decide +kernel
theorem dX5_wishedTag_6 : decode cX5_wishedTag 6 = .ok (.getfield 114, 3) := by decide +kernel
theorem dX5_wishedTag_9 : decode cX5_wishedTag 9 = .ok (.ireturn, 1) := by decide +kernel
theorem dX5_wishedTag_10 : decode cX5_wishedTag 10 = .ok (.iload_n 1, 1) := by decide +kernel
theorem dX5_wishedTag_11 : decode cX5_wishedTag 11 = .ok (.iconst 5, 1) := by decide +kernel
theorem dX5_wishedTag_12 : decode cX5_wishedTag 12 = .ok (.if_icmp .ne 7, 3) := by decide +kernel
theorem dX5_wishedTag_15 : decode cX5_wishedTag 15 = .ok (.iconst (-1), 1) := by decide +kernel
theorem dX5_wishedTag_16 : decode cX5_wishedTag 16 = .ok (.goto 4, 3) := by decide +kernel
theorem dX5_wishedTag_19 : decode cX5_wishedTag 19 = .ok (.iload_n 1, 1) := by decide +kernel
theorem dX5_wishedTag_20 : decode cX5_wishedTag 20 = .ok (.ireturn, 1) := by decide +kernel
theorem dX5_updateCopy_0 : decode cX5_updateCopy 0 = .ok (.aload_n 2, 1) := by decide +kernel
theorem dX5_updateCopy_1 : decode cX5_updateCopy 1 = .ok (.iload_n 3, 1) := by decide +kernel
theorem dX5_updateCopy_2 : decode cX5_updateCopy 2 = .ok (.invokevirtual 202, 3) := by decide +kernel
theorem dX5_updateCopy_5 : decode cX5_updateCopy 5 = .ok (.istore 4, 2) := by decide +kernel
theorem dX5_updateCopy_7 : decode cX5_updateCopy 7 = .ok (.aload_n 1, 1) := by decide +kernel
theorem dX5_updateCopy_8 : decode cX5_updateCopy 8 = .ok (.getfield 128, 3) := by decide +kernel
theorem dX5_updateCopy_11 : decode cX5_updateCopy 11 = .ok (.bipush (-2), 2) := by decide +kernel
theorem dX5_updateCopy_13 : decode cX5_updateCopy 13 = .ok (.if_icmp .ne 14, 3) := by decide +kernel
theorem dX5_updateCopy_16 : decode cX5_updateCopy 16 = .ok (.iload 4, 2) := by decide +kernel
theorem dX5_updateCopy_18 : decode cX5_updateCopy 18 = .ok (.ifCond .eq 7, 3) := by decide +kernel
theorem dX5_updateCopy_21 : decode cX5_updateCopy 21 = .ok (.iconst 3, 1) := by decide +kernel
theorem dX5_updateCopy_22 : decode cX5_updateCopy 22 = .ok (.goto 4, 3) := by decide +kernel
theorem dX5_updateCopy_25 : decode cX5_updateCopy 25 = .ok (.iconst 0, 1) := by decide +kernel
theorem dX5_updateCopy_26 : decode cX5_updateCopy 26 = .ok (.ireturn, 1) := by decide +kernel
theorem dX5_updateCopy_27 : decode cX5_updateCopy 27 = .ok (.iload 4, 2) := by decide +kernel
theorem dX5_updateCopy_29 : decode cX5_updateCopy 29 = .ok (.ifCond .ne 9, 3) := by decide +kernel
theorem dX5_updateCopy_32 : decode cX5_updateCopy 32 = .ok (.aload_n 1, 1) := by decide +kernel
theorem dX5_updateCopy_33 : decode cX5_updateCopy 33 = .ok (.aload_n 2, 1) := by decide +kernel
theorem dX5_updateCopy_34 : decode cX5_updateCopy 34 = .ok (.invokestatic 208, 3) := by decide +kernel
theorem dX5_updateCopy_37 : decode cX5_updateCopy 37 = .ok (.ireturn, 1) := by decide +kernel
theorem dX5_updateCopy_38 : decode cX5_updateCopy 38 = .ok (.aload_n 1, 1) := by decide +kernel
theorem dX5_updateCopy_39 : decode cX5_updateCopy 39 = .ok (.invokevirtual 52, 3) := by decide +kernel
theorem dX5_updateCopy_42 : decode cX5_updateCopy 42 = .ok (.ifCond .ne 16, 3) := by decide +kernel
theorem dX5_updateCopy_45 : decode cX5_updateCopy 45 = .ok (.aload_n 1, 1) := by decide +kernel
theorem dX5_updateCopy_46 : decode cX5_updateCopy 46 = .ok (.iload_n 3, 1) := by decide +kernel
theorem dX5_updateCopy_47 : decode cX5_updateCopy 47 = .ok (.aload_n 2, 1) := by decide +kernel
theorem dX5_updateCopy_48 : decode cX5_updateCopy 48 = .ok (.getfield 163, 3) := by decide +kernel
theorem dX5_updateCopy_51 : decode cX5_updateCopy 51 = .ok (.iload_n 3, 1) := by decide +kernel
theorem dX5_updateCopy_52 : decode cX5_updateCopy 52 = .ok (.laload, 1) := by decide +kernel
theorem dX5_updateCopy_53 : decode cX5_updateCopy 53 = .ok (.invokevirtual 62, 3) := by decide +kernel
theorem dX5_updateCopy_56 : decode cX5_updateCopy 56 = .ok (.iconst 2, 1) := by decide +kernel
theorem dX5_updateCopy_57 : decode cX5_updateCopy 57 = .ok (.ireturn, 1) := by decide +kernel
theorem dX5_updateCopy_58 : decode cX5_updateCopy 58 = .ok (.aload_n 1, 1) := by decide +kernel
theorem dX5_updateCopy_59 : decode cX5_updateCopy 59 = .ok (.getfield 89, 3) := by decide +kernel
theorem dX5_updateCopy_62 : decode cX5_updateCopy 62 = .ok (.ifCond .ne 11, 3) := by decide +kernel
theorem dX5_updateCopy_65 : decode cX5_updateCopy 65 = .ok (.aload_n 1, 1) := by decide +kernel
theorem dX5_updateCopy_66 : decode cX5_updateCopy 66 = .ok (.getfield 128, 3) := by decide +kernel
theorem dX5_updateCopy_69 : decode cX5_updateCopy 69 = .ok (.iload_n 3, 1) := by decide +kernel
theorem dX5_updateCopy_70 : decode cX5_updateCopy 70 = .ok (.if_icmp .ne 5, 3) := by decide +kernel
theorem dX5_updateCopy_73 : decode cX5_updateCopy 73 = .ok (.iconst 0, 1) := by decide +kernel
theorem dX5_updateCopy_74 : decode cX5_updateCopy 74 = .ok (.ireturn, 1) := by decide +kernel
theorem dX5_updateCopy_75 : decode cX5_updateCopy 75 = .ok (.aload_n 1, 1) := by decide +kernel
theorem dX5_updateCopy_76 : decode cX5_updateCopy 76 = .ok (.aload_n 2, 1) := by decide +kernel
theorem dX5_updateCopy_77 : decode cX5_updateCopy 77 = .ok (.invokestatic 193, 3) := by decide +kernel
theorem dX5_updateCopy_80 : decode cX5_updateCopy 80 = .ok (.ifCond .ne 16, 3) := by decide +kernel
theorem dX5_updateCopy_83 : decode cX5_updateCopy 83 = .ok (.aload_n 1, 1) := by decide +kernel
theorem dX5_updateCopy_84 : decode cX5_updateCopy 84 = .ok (.iload_n 3, 1) := by decide +kernel
theorem dX5_updateCopy_85 : decode cX5_updateCopy 85 = .ok (.aload_n 2, 1) := by decide +kernel
theorem dX5_updateCopy_86 : decode cX5_updateCopy 86 = .ok (.getfield 163, 3) := by decide +kernel
theorem dX5_updateCopy_89 : decode cX5_updateCopy 89 = .ok (.iload_n 3, 1) := by decide +kernel
theorem dX5_updateCopy_90 : decode cX5_updateCopy 90 = .ok (.laload, 1) := by decide +kernel
theorem dX5_updateCopy_91 : decode cX5_updateCopy 91 = .ok (.invokevirtual 62, 3) := by decide +kernel
theorem dX5_updateCopy_94 : decode cX5_updateCopy 94 = .ok (.iconst 2, 1) := by decide +kernel
theorem dX5_updateCopy_95 : decode cX5_updateCopy 95 = .ok (.ireturn, 1) := by decide +kernel
theorem dX5_updateCopy_96 : decode cX5_updateCopy 96 = .ok (.aload_n 0, 1) := by decide +kernel
theorem dX5_updateCopy_97 : decode cX5_updateCopy 97 = .ok (.aload_n 1, 1) := by decide +kernel
theorem dX5_updateCopy_98 : decode cX5_updateCopy 98 = .ok (.aload_n 2, 1) := by decide +kernel
theorem dX5_updateCopy_99 : decode cX5_updateCopy 99 = .ok (.iload_n 3, 1) := by decide +kernel
theorem dX5_updateCopy_100 : decode cX5_updateCopy 100 = .ok (.invokevirtual 211, 3) := by decide +kernel
theorem dX5_updateCopy_103 : decode cX5_updateCopy 103 = .ok (.ireturn, 1) := by decide +kernel
theorem dX5_updateToNothing_0 : decode cX5_updateToNothing 0 = .ok (.aload_n 0, 1) := by decide +kernel
theorem dX5_updateToNothing_1 : decode cX5_updateToNothing 1 = .ok (.invokevirtual 52, 3) := by decide +kernel
theorem dX5_updateToNothing_4 : decode cX5_updateToNothing 4 = .ok (.ifCond .ne 5, 3) := by decide +kernel
theorem dX5_updateToNothing_7 : decode cX5_updateToNothing 7 = .ok (.iconst 0, 1) := by decide +kernel
theorem dX5_updateToNothing_8 : decode cX5_updateToNothing 8 = .ok (.ireturn, 1) := by decide +kernel
theorem dX5_updateToNothing_9 : decode cX5_updateToNothing 9 = .ok (.aload_n 0, 1) := by decide +kernel
theorem dX5_updateToNothing_10 : decode cX5_updateToNothing 10 = .ok (.getfield 89, 3) := by decide +kernel
theorem dX5_updateToNothing_13 : decode cX5_updateToNothing 13 = .ok (.ifCond .ne 13, 3) := by decide +kernel
theorem dX5_updateToNothing_16 : decode cX5_updateToNothing 16 = .ok (.aload_n 0, 1) := by decide +kernel
theorem dX5_updateToNothing_17 : decode cX5_updateToNothing 17 = .ok (.aload_n 1, 1) := by decide +kernel
theorem dX5_updateToNothing_18 : decode cX5_updateToNothing 18 = .ok (.invokestatic 193, 3) := by decide +kernel
theorem dX5_updateToNothing_21 : decode cX5_updateToNothing 21 = .ok (.ifCond .eq 5, 3) := by decide +kernel
theorem dX5_updateToNothing_24 : decode cX5_updateToNothing 24 = .ok (.iconst 3, 1) := by decide +kernel
theorem dX5_updateToNothing_25 : decode cX5_updateToNothing 25 = .ok (.ireturn, 1) := by decide +kernel
theorem dX5_updateToNothing_26 : decode cX5_updateToNothing 26 = .ok (.aload_n 0, 1) := by decide +kernel
theorem dX5_updateToNothing_27 : decode cX5_updateToNothing 27 = .ok (.invokevirtual 82, 3) := by decide +kernel
theorem dX5_updateToNothing_30 : decode cX5_updateToNothing 30 = .ok (.iconst 1, 1) := by decide +kernel
theorem dX5_updateToNothing_31 : decode cX5_updateToNothing 31 = .ok (.ireturn, 1) := by decide +kernel
theorem dX5_mergeInto_0 : decode cX5_mergeInto 0 = .ok (.aload_n 0, 1) := by decide +kernel
theorem dX5_mergeInto_1 : decode cX5_mergeInto 1 = .ok (.getfield 37, 3) := by decide +kernel
theorem dX5_mergeInto_4 : decode cX5_mergeInto 4 = .ok (.aload_n 2, 1) := by decide +kernel
theorem dX5_mergeInto_5 : decode cX5_mergeInto 5 = .ok (.getfield 163, 3) := by decide +kernel
theorem dX5_mergeInto_8 : decode cX5_mergeInto 8 = .ok (.aload_n 1, 1) := by decide +kernel
theorem dX5_mergeInto_9 : decode cX5_mergeInto 9 = .ok (.getfield 128, 3) := by decide +kernel
theorem dX5_mergeInto_12 : decode cX5_mergeInto 12 = .ok (.laload, 1) := by decide +kernel
theorem dX5_mergeInto_13 : decode cX5_mergeInto 13 = .ok (.aload_n 1, 1) := by decide +kernel
theorem dX5_mergeInto_14 : decode cX5_mergeInto 14 = .ok (.getfield 72, 3) := by decide +kernel
theorem dX5_mergeInto_17 : decode cX5_mergeInto 17 = .ok (.aload_n 2, 1) := by decide +kernel
theorem dX5_mergeInto_18 : decode cX5_mergeInto 18 = .ok (.getfield 163, 3) := by decide +kernel
theorem dX5_mergeInto_21 : decode cX5_mergeInto 21 = .ok (.iload_n 3, 1) := by decide +kernel
theorem dX5_mergeInto_22 : decode cX5_mergeInto 22 = .ok (.laload, 1) := by decide +kernel
theorem dX5_mergeInto_23 : decode cX5_mergeInto 23 = .ok (.invokevirtual 214, 3) := by decide +kernel
theorem dX5_mergeInto_26 : decode cX5_mergeInto 26 = .ok (.aload_n 0, 1) := by decide +kernel
theorem dX5_mergeInto_27 : decode cX5_mergeInto 27 = .ok (.getfield 37, 3) := by decide +kernel
theorem dX5_mergeInto_30 : decode cX5_mergeInto 30 = .ok (.invokevirtual 218, 3) := by decide +kernel
theorem dX5_mergeInto_33 : decode cX5_mergeInto 33 = .ok (.ifCond .eq 6, 3) := by decide +kernel
theorem dX5_mergeInto_36 : decode cX5_mergeInto 36 = .ok (.bipush (-7), 2) := by decide +kernel
theorem dX5_mergeInto_38 : decode cX5_mergeInto 38 = .ok (.ireturn, 1) := by decide +kernel
theorem dX5_mergeInto_39 : decode cX5_mergeInto 39 = .ok (.aload_n 1, 1) := by decide +kernel
theorem dX5_mergeInto_40 : decode cX5_mergeInto 40 = .ok (.iload_n 3, 1) := by decide +kernel
theorem dX5_mergeInto_41 : decode cX5_mergeInto 41 = .ok (.aload_n 0, 1) := by decide +kernel
theorem dX5_mergeInto_42 : decode cX5_mergeInto 42 = .ok (.getfield 37, 3) := by decide +kernel
theorem dX5_mergeInto_45 : decode cX5_mergeInto 45 = .ok (.getfield 221, 3) := by decide +kernel
theorem dX5_mergeInto_48 : decode cX5_mergeInto 48 = .ok (.invokevirtual 62, 3) := by decide +kernel
theorem dX5_mergeInto_51 : decode cX5_mergeInto 51 = .ok (.aload_n 0, 1) := by decide +kernel
theorem dX5_mergeInto_52 : decode cX5_mergeInto 52 = .ok (.getfield 37, 3) := by decide +kernel
theorem dX5_mergeInto_55 : decode cX5_mergeInto 55 = .ok (.getfield 222, 3) := by decide +kernel
theorem dX5_mergeInto_58 : decode cX5_mergeInto 58 = .ok (.ifCond .eq 7, 3) := by decide +kernel
theorem dX5_mergeInto_61 : decode cX5_mergeInto 61 = .ok (.iconst 5, 1) := by decide +kernel
theorem dX5_mergeInto_62 : decode cX5_mergeInto 62 = .ok (.goto 4, 3) := by decide +kernel
theorem dX5_mergeInto_65 : decode cX5_mergeInto 65 = .ok (.iconst 4, 1) := by decide +kernel
theorem dX5_mergeInto_66 : decode cX5_mergeInto 66 = .ok (.ireturn, 1) := by decide +kernel
theorem dX3_merge_0 : decode cX3_merge 0 = .ok (.aload_n 0, 1) := by decide +kernel
theorem dX3_merge_1 : decode cX3_merge 1 = .ok (.getfield 12, 3) := by decide +kernel
theorem dX3_merge_4 : decode cX3_merge 4 = .ok (.lload_n 1, 1) := by decide +kernel
theorem dX3_merge_5 : decode cX3_merge 5 = .ok (.lload_n 3, 1) := by decide +kernel
theorem dX3_merge_6 : decode cX3_merge 6 = .ok (.invokevirtual 35, 3) := by decide +kernel
theorem dX3_merge_9 : decode cX3_merge 9 = .ok (.aload_n 0, 1) := by decide +kernel
theorem dX3_merge_10 : decode cX3_merge 10 = .ok (.getfield 18, 3) := by decide +kernel
theorem dX3_merge_13 : decode cX3_merge 13 = .ok (.lload_n 1, 1) := by decide +kernel
theorem dX3_merge_14 : decode cX3_merge 14 = .ok (.lload 5, 2) := by decide +kernel
theorem dX3_merge_16 : decode cX3_merge 16 = .ok (.invokevirtual 35, 3) := by decide +kernel
theorem dX3_merge_19 : decode cX3_merge 19 = .ok (.aload_n 0, 1) := by decide +kernel
theorem dX3_merge_20 : decode cX3_merge 20 = .ok (.lconst 0, 1) := by decide +kernel
theorem dX3_merge_21 : decode cX3_merge 21 = .ok (.putfield 23, 3) := by decide +kernel
theorem dX3_merge_24 : decode cX3_merge 24 = .ok (.aload_n 0, 1) := by decide +kernel
theorem dX3_merge_25 : decode cX3_merge 25 = .ok (.iconst 0, 1) := by decide +kernel
theorem dX3_merge_26 : decode cX3_merge 26 = .ok (.putfield 27, 3) := by decide +kernel
theorem dX3_merge_29 : decode cX3_merge 29 = .ok (.aload_n 0, 1) := by decide +kernel
theorem dX3_merge_30 : decode cX3_merge 30 = .ok (.iconst 0, 1) := by decide +kernel
theorem dX3_merge_31 : decode cX3_merge 31 = .ok (.putfield 31, 3) := by decide +kernel
theorem dX3_merge_34 : decode cX3_merge 34 = .ok (.iconst 0, 1) := by decide +kernel
theorem dX3_merge_35 : decode cX3_merge 35 = .ok (.istore 7, 2) := by decide +kernel
theorem dX3_merge_37 : decode cX3_merge 37 = .ok (.iconst 0, 1) := by decide +kernel
theorem dX3_merge_38 : decode cX3_merge 38 = .ok (.istore 8, 2) := by decide +kernel
theorem dX3_merge_40 : decode cX3_merge 40 = .ok (.iconst 0, 1) := by decide +kernel
theorem dX3_merge_41 : decode cX3_merge 41 = .ok (.istore 9, 2) := by decide +kernel
theorem dX3_merge_43 : decode cX3_merge 43 = .ok (.iconst 0, 1) := by decide +kernel
theorem dX3_merge_44 : decode cX3_merge 44 = .ok (.istore 10, 2) := by decide +kernel
theorem dX3_merge_46 : decode cX3_merge 46 = .ok (.iload 10, 2) := by decide +kernel
theorem dX3_merge_48 : decode cX3_merge 48 = .ok (.aload_n 0, 1) := by decide +kernel
theorem dX3_merge_49 : decode cX3_merge 49 = .ok (.getfield 12, 3) := by decide +kernel
theorem dX3_merge_52 : decode cX3_merge 52 = .ok (.getfield 39, 3) := by decide +kernel
theorem dX3_merge_55 : decode cX3_merge 55 = .ok (.if_icmp .ge 93, 3) := by decide +kernel
theorem dX3_merge_58 : decode cX3_merge 58 = .ok (.aload_n 0, 1) := by decide +kernel
theorem dX3_merge_59 : decode cX3_merge 59 = .ok (.getfield 12, 3) := by decide +kernel
theorem dX3_merge_62 : decode cX3_merge 62 = .ok (.getfield 42, 3) := by decide +kernel
theorem dX3_merge_65 : decode cX3_merge 65 = .ok (.iload 10, 2) := by decide +kernel
theorem dX3_merge_67 : decode cX3_merge 67 = .ok (.iaload, 1) := by decide +kernel
theorem dX3_merge_68 : decode cX3_merge 68 = .ok (.istore 11, 2) := by decide +kernel
theorem dX3_merge_70 : decode cX3_merge 70 = .ok (.aload_n 0, 1) := by decide +kernel
theorem dX3_merge_71 : decode cX3_merge 71 = .ok (.getfield 18, 3) := by decide +kernel
theorem dX3_merge_74 : decode cX3_merge 74 = .ok (.getfield 42, 3) := by decide +kernel
theorem dX3_merge_77 : decode cX3_merge 77 = .ok (.iload 10, 2) := by decide +kernel
theorem dX3_merge_79 : decode cX3_merge 79 = .ok (.iaload, 1) := by decide +kernel
theorem dX3_merge_80 : decode cX3_merge 80 = .ok (.istore 12, 2) := by decide +kernel
theorem dX3_merge_82 : decode cX3_merge 82 = .ok (.iload 11, 2) := by decide +kernel
theorem dX3_merge_84 : decode cX3_merge 84 = .ok (.iconst (-1), 1) := by decide +kernel
theorem dX3_merge_85 : decode cX3_merge 85 = .ok (.if_icmp .eq 57, 3) := by decide +kernel
theorem dX3_merge_88 : decode cX3_merge 88 = .ok (.iload 12, 2) := by decide +kernel
theorem dX3_merge_90 : decode cX3_merge 90 = .ok (.iconst (-1), 1) := by decide +kernel
theorem dX3_merge_91 : decode cX3_merge 91 = .ok (.if_icmp .eq 51, 3) := by decide +kernel
theorem dX3_merge_94 : decode cX3_merge 94 = .ok (.aload_n 0, 1) := by decide +kernel
theorem dX3_merge_95 : decode cX3_merge 95 = .ok (.iload 7, 2) := by decide +kernel
theorem dX3_merge_97 : decode cX3_merge 97 = .ok (.iload 10, 2) := by decide +kernel
theorem dX3_merge_99 : decode cX3_merge 99 = .ok (.iload 8, 2) := by decide +kernel
theorem dX3_merge_101 : decode cX3_merge 101 = .ok (.iload 11, 2) := by decide +kernel
theorem dX3_merge_103 : decode cX3_merge 103 = .ok (.iload 9, 2) := by decide +kernel
theorem dX3_merge_105 : decode cX3_merge 105 = .ok (.iload 12, 2) := by decide +kernel
theorem dX3_merge_107 : decode cX3_merge 107 = .ok (.invokevirtual 46, 3) := by decide +kernel
theorem dX3_merge_110 : decode cX3_merge 110 = .ok (.aload_n 0, 1) := by decide +kernel
theorem dX3_merge_111 : decode cX3_merge 111 = .ok (.aload_n 0, 1) := by decide +kernel
theorem dX3_merge_112 : decode cX3_merge 112 = .ok (.getfield 12, 3) := by decide +kernel
theorem dX3_merge_115 : decode cX3_merge 115 = .ok (.getfield 50, 3) := by decide +kernel
theorem dX3_merge_118 : decode cX3_merge 118 = .ok (.iload 10, 2) := by decide +kernel
theorem dX3_merge_120 : decode cX3_merge 120 = .ok (.iaload, 1) := by decide +kernel
theorem dX3_merge_121 : decode cX3_merge 121 = .ok (.invokevirtual 53, 3) := by decide +kernel
theorem dX3_merge_124 : decode cX3_merge 124 = .ok (.iload 10, 2) := by decide +kernel
theorem dX3_merge_126 : decode cX3_merge 126 = .ok (.iconst 1, 1) := by decide +kernel
theorem dX3_merge_127 : decode cX3_merge 127 = .ok (.iadd, 1) := by decide +kernel
theorem dX3_merge_128 : decode cX3_merge 128 = .ok (.istore 7, 2) := by decide +kernel
theorem dX3_merge_130 : decode cX3_merge 130 = .ok (.iload 11, 2) := by decide +kernel
theorem dX3_merge_132 : decode cX3_merge 132 = .ok (.iconst 1, 1) := by decide +kernel
theorem dX3_merge_133 : decode cX3_merge 133 = .ok (.iadd, 1) := by decide +kernel
theorem dX3_merge_134 : decode cX3_merge 134 = .ok (.istore 8, 2) := by decide +kernel
theorem dX3_merge_136 : decode cX3_merge 136 = .ok (.iload 12, 2) := by decide +kernel
theorem dX3_merge_138 : decode cX3_merge 138 = .ok (.iconst 1, 1) := by decide +kernel
theorem dX3_merge_139 : decode cX3_merge 139 = .ok (.iadd, 1) := by decide +kernel
theorem dX3_merge_140 : decode cX3_merge 140 = .ok (.istore 9, 2) := by decide +kernel
theorem dX3_merge_142 : decode cX3_merge 142 = .ok (.iinc 10 1, 3) := by decide +kernel
theorem dX3_merge_145 : decode cX3_merge 145 = .ok (.goto (-99), 3) := by decide +kernel
theorem dX3_merge_148 : decode cX3_merge 148 = .ok (.aload_n 0, 1) := by decide +kernel
theorem dX3_merge_149 : decode cX3_merge 149 = .ok (.iload 7, 2) := by decide +kernel
theorem dX3_merge_151 : decode cX3_merge 151 = .ok (.aload_n 0, 1) := by decide +kernel
theorem dX3_merge_152 : decode cX3_merge 152 = .ok (.getfield 12, 3) := by decide +kernel
theorem dX3_merge_155 : decode cX3_merge 155 = .ok (.getfield 39, 3) := by decide +kernel
theorem dX3_merge_158 : decode cX3_merge 158 = .ok (.iload 8, 2) := by decide +kernel
theorem dX3_merge_160 : decode cX3_merge 160 = .ok (.aload_n 0, 1) := by decide +kernel
theorem dX3_merge_161 : decode cX3_merge 161 = .ok (.getfield 12, 3) := by decide +kernel
theorem dX3_merge_164 : decode cX3_merge 164 = .ok (.getfield 57, 3) := by decide +kernel
theorem dX3_merge_167 : decode cX3_merge 167 = .ok (.iload 9, 2) := by decide +kernel
theorem dX3_merge_169 : decode cX3_merge 169 = .ok (.aload_n 0, 1) := by decide +kernel
theorem dX3_merge_170 : decode cX3_merge 170 = .ok (.getfield 18, 3) := by decide +kernel
theorem dX3_merge_173 : decode cX3_merge 173 = .ok (.getfield 57, 3) := by decide +kernel
theorem dX3_merge_176 : decode cX3_merge 176 = .ok (.invokevirtual 46, 3) := by decide +kernel
theorem dX3_merge_179 : decode cX3_merge 179 = .ok (.return_, 1) := by decide +kernel
theorem dX1_compare_0 : decode cX1_compare 0 = .ok (.aload_n 0, 1) := by decide +kernel
theorem dX1_compare_1 : decode cX1_compare 1 = .ok (.lload_n 1, 1) := by decide +kernel
theorem dX1_compare_2 : decode cX1_compare 2 = .ok (.aload_n 0, 1) := by decide +kernel
theorem dX1_compare_3 : decode cX1_compare 3 = .ok (.getfield 9, 3) := by decide +kernel
theorem dX1_compare_6 : decode cX1_compare 6 = .ok (.invokestatic 36, 3) := by decide +kernel
theorem dX1_compare_9 : decode cX1_compare 9 = .ok (.putfield 18, 3) := by decide +kernel
theorem dX1_compare_12 : decode cX1_compare 12 = .ok (.aload_n 0, 1) := by decide +kernel
theorem dX1_compare_13 : decode cX1_compare 13 = .ok (.lload_n 3, 1) := by decide +kernel
theorem dX1_compare_14 : decode cX1_compare 14 = .ok (.aload_n 0, 1) := by decide +kernel
theorem dX1_compare_15 : decode cX1_compare 15 = .ok (.getfield 15, 3) := by decide +kernel
theorem dX1_compare_18 : decode cX1_compare 18 = .ok (.invokestatic 36, 3) := by decide +kernel
theorem dX1_compare_21 : decode cX1_compare 21 = .ok (.putfield 22, 3) := by decide +kernel
theorem dX1_compare_24 : decode cX1_compare 24 = .ok (.aload_n 0, 1) := by decide +kernel
theorem dX1_compare_25 : decode cX1_compare 25 = .ok (.invokevirtual 42, 3) := by decide +kernel
theorem dX1_compare_28 : decode cX1_compare 28 = .ok (.aload_n 0, 1) := by decide +kernel
theorem dX1_compare_29 : decode cX1_compare 29 = .ok (.invokevirtual 45, 3) := by decide +kernel
theorem dX1_compare_32 : decode cX1_compare 32 = .ok (.return_, 1) := by decide +kernel
theorem dX4_spread_0 : decode cX4_spread 0 = .ok (.lload_n 0, 1) := by decide +kernel
theorem dX4_spread_1 : decode cX4_spread 1 = .ok (.invokestatic 24, 3) := by decide +kernel
theorem dX4_spread_4 : decode cX4_spread 4 = .ok (.istore_n 3, 1) := by decide +kernel
theorem dX4_spread_5 : decode cX4_spread 5 = .ok (.lload_n 0, 1) := by decide +kernel
theorem dX4_spread_6 : decode cX4_spread 6 = .ok (.lstore 4, 2) := by decide +kernel
theorem dX4_spread_8 : decode cX4_spread 8 = .ok (.iload_n 3, 1) := by decide +kernel
theorem dX4_spread_9 : decode cX4_spread 9 = .ok (.iconst 1, 1) := by decide +kernel
theorem dX4_spread_10 : decode cX4_spread 10 = .ok (.isub, 1) := by decide +kernel
theorem dX4_spread_11 : decode cX4_spread 11 = .ok (.istore 6, 2) := by decide +kernel
theorem dX4_spread_13 : decode cX4_spread 13 = .ok (.iload 6, 2) := by decide +kernel
theorem dX4_spread_15 : decode cX4_spread 15 = .ok (.ifCond .lt 28, 3) := by decide +kernel
theorem dX4_spread_18 : decode cX4_spread 18 = .ok (.aload_n 2, 1) := by decide +kernel
theorem dX4_spread_19 : decode cX4_spread 19 = .ok (.iload 6, 2) := by decide +kernel
theorem dX4_spread_21 : decode cX4_spread 21 = .ok (.lload 4, 2) := by decide +kernel
theorem dX4_spread_23 : decode cX4_spread 23 = .ok (.ldc2_w 11, 3) := by decide +kernel
theorem dX4_spread_26 : decode cX4_spread 26 = .ok (.lrem, 1) := by decide +kernel
theorem dX4_spread_27 : decode cX4_spread 27 = .ok (.l2i, 1) := by decide +kernel
theorem dX4_spread_28 : decode cX4_spread 28 = .ok (.iastore, 1) := by decide +kernel
theorem dX4_spread_29 : decode cX4_spread 29 = .ok (.lload 4, 2) := by decide +kernel
theorem dX4_spread_31 : decode cX4_spread 31 = .ok (.ldc2_w 11, 3) := by decide +kernel
theorem dX4_spread_34 : decode cX4_spread 34 = .ok (.ldiv, 1) := by decide +kernel
theorem dX4_spread_35 : decode cX4_spread 35 = .ok (.lstore 4, 2) := by decide +kernel
theorem dX4_spread_37 : decode cX4_spread 37 = .ok (.iinc 6 (-1), 3) := by decide +kernel
theorem dX4_spread_40 : decode cX4_spread 40 = .ok (.goto (-27), 3) := by decide +kernel
theorem dX4_spread_43 : decode cX4_spread 43 = .ok (.iload_n 3, 1) := by decide +kernel
theorem dX4_spread_44 : decode cX4_spread 44 = .ok (.ireturn, 1) := by decide +kernel
theorem dX4_lineCount_0 : decode cX4_lineCount 0 = .ok (.iconst 0, 1) := by decide +kernel
theorem dX4_lineCount_1 : decode cX4_lineCount 1 = .ok (.istore_n 2, 1) := by decide +kernel
theorem dX4_lineCount_2 : decode cX4_lineCount 2 = .ok (.lload_n 0, 1) := by decide +kernel
theorem dX4_lineCount_3 : decode cX4_lineCount 3 = .ok (.lstore_n 3, 1) := by decide +kernel
theorem dX4_lineCount_4 : decode cX4_lineCount 4 = .ok (.iload_n 2, 1) := by decide +kernel
theorem dX4_lineCount_5 : decode cX4_lineCount 5 = .ok (.bipush 12, 2) := by decide +kernel
theorem dX4_lineCount_7 : decode cX4_lineCount 7 = .ok (.if_icmp .ge 21, 3) := by decide +kernel
theorem dX4_lineCount_10 : decode cX4_lineCount 10 = .ok (.lload_n 3, 1) := by decide +kernel
theorem dX4_lineCount_11 : decode cX4_lineCount 11 = .ok (.lconst 0, 1) := by decide +kernel
theorem dX4_lineCount_12 : decode cX4_lineCount 12 = .ok (.lcmp, 1) := by decide +kernel
theorem dX4_lineCount_13 : decode cX4_lineCount 13 = .ok (.ifCond .le 15, 3) := by decide +kernel
theorem dX4_lineCount_16 : decode cX4_lineCount 16 = .ok (.lload_n 3, 1) := by decide +kernel
theorem dX4_lineCount_17 : decode cX4_lineCount 17 = .ok (.ldc2_w 11, 3) := by decide +kernel
theorem dX4_lineCount_20 : decode cX4_lineCount 20 = .ok (.ldiv, 1) := by decide +kernel
theorem dX4_lineCount_21 : decode cX4_lineCount 21 = .ok (.lstore_n 3, 1) := by decide +kernel
theorem dX4_lineCount_22 : decode cX4_lineCount 22 = .ok (.iinc 2 1, 3) := by decide +kernel
theorem dX4_lineCount_25 : decode cX4_lineCount 25 = .ok (.goto (-21), 3) := by decide +kernel
theorem dX4_lineCount_28 : decode cX4_lineCount 28 = .ok (.iload_n 2, 1) := by decide +kernel
theorem dX4_lineCount_29 : decode cX4_lineCount 29 = .ok (.ireturn, 1) := by decide +kernel
theorem dX1_measureRests_0 : decode cX1_measureRests 0 = .ok (.aload_n 0, 1) := by decide +kernel
theorem dX1_measureRests_1 : decode cX1_measureRests 1 = .ok (.getfield 18, 3) := by decide +kernel
theorem dX1_measureRests_4 : decode cX1_measureRests 4 = .ok (.istore_n 1, 1) := by decide +kernel
theorem dX1_measureRests_5 : decode cX1_measureRests 5 = .ok (.iload_n 1, 1) := by decide +kernel
theorem dX1_measureRests_6 : decode cX1_measureRests 6 = .ok (.ifCond .lt 123, 3) := by decide +kernel
theorem dX1_measureRests_9 : decode cX1_measureRests 9 = .ok (.aload_n 0, 1) := by decide +kernel
theorem dX1_measureRests_10 : decode cX1_measureRests 10 = .ok (.getfield 22, 3) := by decide +kernel
theorem dX1_measureRests_13 : decode cX1_measureRests 13 = .ok (.istore_n 2, 1) := by decide +kernel
theorem dX1_measureRests_14 : decode cX1_measureRests 14 = .ok (.iload_n 2, 1) := by decide +kernel
theorem dX1_measureRests_15 : decode cX1_measureRests 15 = .ok (.ifCond .lt 108, 3) := by decide +kernel
theorem dX1_measureRests_18 : decode cX1_measureRests 18 = .ok (.iload_n 1, 1) := by decide +kernel
theorem dX1_measureRests_19 : decode cX1_measureRests 19 = .ok (.aload_n 0, 1) := by decide +kernel
theorem dX1_measureRests_20 : decode cX1_measureRests 20 = .ok (.getfield 18, 3) := by decide +kernel
theorem dX1_measureRests_23 : decode cX1_measureRests 23 = .ok (.if_icmp .eq 11, 3) := by decide +kernel
theorem dX1_measureRests_26 : decode cX1_measureRests 26 = .ok (.iload_n 2, 1) := by decide +kernel
theorem dX1_measureRests_27 : decode cX1_measureRests 27 = .ok (.aload_n 0, 1) := by decide +kernel
theorem dX1_measureRests_28 : decode cX1_measureRests 28 = .ok (.getfield 22, 3) := by decide +kernel
theorem dX1_measureRests_31 : decode cX1_measureRests 31 = .ok (.if_icmp .ne 15, 3) := by decide +kernel
theorem dX1_measureRests_34 : decode cX1_measureRests 34 = .ok (.aload_n 0, 1) := by decide +kernel
theorem dX1_measureRests_35 : decode cX1_measureRests 35 = .ok (.getfield 27, 3) := by decide +kernel
theorem dX1_measureRests_38 : decode cX1_measureRests 38 = .ok (.iload_n 1, 1) := by decide +kernel
theorem dX1_measureRests_39 : decode cX1_measureRests 39 = .ok (.aaload, 1) := by decide +kernel
theorem dX1_measureRests_40 : decode cX1_measureRests 40 = .ok (.iload_n 2, 1) := by decide +kernel
theorem dX1_measureRests_41 : decode cX1_measureRests 41 = .ok (.iconst 0, 1) := by decide +kernel
theorem dX1_measureRests_42 : decode cX1_measureRests 42 = .ok (.iastore, 1) := by decide +kernel
theorem dX1_measureRests_43 : decode cX1_measureRests 43 = .ok (.goto 74, 3) := by decide +kernel
theorem dX1_measureRests_46 : decode cX1_measureRests 46 = .ok (.aload_n 0, 1) := by decide +kernel
theorem dX1_measureRests_47 : decode cX1_measureRests 47 = .ok (.getfield 9, 3) := by decide +kernel
theorem dX1_measureRests_50 : decode cX1_measureRests 50 = .ok (.iload_n 1, 1) := by decide +kernel
theorem dX1_measureRests_51 : decode cX1_measureRests 51 = .ok (.iaload, 1) := by decide +kernel
theorem dX1_measureRests_52 : decode cX1_measureRests 52 = .ok (.aload_n 0, 1) := by decide +kernel
theorem dX1_measureRests_53 : decode cX1_measureRests 53 = .ok (.getfield 15, 3) := by decide +kernel
theorem dX1_measureRests_56 : decode cX1_measureRests 56 = .ok (.iload_n 2, 1) := by decide +kernel
theorem dX1_measureRests_57 : decode cX1_measureRests 57 = .ok (.iaload, 1) := by decide +kernel
theorem dX1_measureRests_58 : decode cX1_measureRests 58 = .ok (.if_icmp .ne 28, 3) := by decide +kernel
theorem dX1_measureRests_61 : decode cX1_measureRests 61 = .ok (.aload_n 0, 1) := by decide +kernel
theorem dX1_measureRests_62 : decode cX1_measureRests 62 = .ok (.getfield 27, 3) := by decide +kernel
theorem dX1_measureRests_65 : decode cX1_measureRests 65 = .ok (.iload_n 1, 1) := by decide +kernel
theorem dX1_measureRests_66 : decode cX1_measureRests 66 = .ok (.aaload, 1) := by decide +kernel
theorem dX1_measureRests_67 : decode cX1_measureRests 67 = .ok (.iload_n 2, 1) := by decide +kernel
theorem dX1_measureRests_68 : decode cX1_measureRests 68 = .ok (.iconst 1, 1) := by decide +kernel
theorem dX1_measureRests_69 : decode cX1_measureRests 69 = .ok (.aload_n 0, 1) := by decide +kernel
theorem dX1_measureRests_70 : decode cX1_measureRests 70 = .ok (.getfield 27, 3) := by decide +kernel
theorem dX1_measureRests_73 : decode cX1_measureRests 73 = .ok (.iload_n 1, 1) := by decide +kernel
theorem dX1_measureRests_74 : decode cX1_measureRests 74 = .ok (.iconst 1, 1) := by decide +kernel
theorem dX1_measureRests_75 : decode cX1_measureRests 75 = .ok (.iadd, 1) := by decide +kernel
theorem dX1_measureRests_76 : decode cX1_measureRests 76 = .ok (.aaload, 1) := by decide +kernel
theorem dX1_measureRests_77 : decode cX1_measureRests 77 = .ok (.iload_n 2, 1) := by decide +kernel
theorem dX1_measureRests_78 : decode cX1_measureRests 78 = .ok (.iconst 1, 1) := by decide +kernel
theorem dX1_measureRests_79 : decode cX1_measureRests 79 = .ok (.iadd, 1) := by decide +kernel
theorem dX1_measureRests_80 : decode cX1_measureRests 80 = .ok (.iaload, 1) := by decide +kernel
theorem dX1_measureRests_81 : decode cX1_measureRests 81 = .ok (.iadd, 1) := by decide +kernel
theorem dX1_measureRests_82 : decode cX1_measureRests 82 = .ok (.iastore, 1) := by decide +kernel
theorem dX1_measureRests_83 : decode cX1_measureRests 83 = .ok (.goto 34, 3) := by decide +kernel
theorem dX1_measureRests_86 : decode cX1_measureRests 86 = .ok (.aload_n 0, 1) := by decide +kernel
theorem dX1_measureRests_87 : decode cX1_measureRests 87 = .ok (.getfield 27, 3) := by decide +kernel
theorem dX1_measureRests_90 : decode cX1_measureRests 90 = .ok (.iload_n 1, 1) := by decide +kernel
theorem dX1_measureRests_91 : decode cX1_measureRests 91 = .ok (.aaload, 1) := by decide +kernel
theorem dX1_measureRests_92 : decode cX1_measureRests 92 = .ok (.iload_n 2, 1) := by decide +kernel
theorem dX1_measureRests_93 : decode cX1_measureRests 93 = .ok (.aload_n 0, 1) := by decide +kernel
theorem dX1_measureRests_94 : decode cX1_measureRests 94 = .ok (.getfield 27, 3) := by decide +kernel
theorem dX1_measureRests_97 : decode cX1_measureRests 97 = .ok (.iload_n 1, 1) := by decide +kernel
theorem dX1_measureRests_98 : decode cX1_measureRests 98 = .ok (.iconst 1, 1) := by decide +kernel
theorem dX1_measureRests_99 : decode cX1_measureRests 99 = .ok (.iadd, 1) := by decide +kernel
theorem dX1_measureRests_100 : decode cX1_measureRests 100 = .ok (.aaload, 1) := by decide +kernel
theorem dX1_measureRests_101 : decode cX1_measureRests 101 = .ok (.iload_n 2, 1) := by decide +kernel
theorem dX1_measureRests_102 : decode cX1_measureRests 102 = .ok (.iaload, 1) := by decide +kernel
theorem dX1_measureRests_103 : decode cX1_measureRests 103 = .ok (.aload_n 0, 1) := by decide +kernel
theorem dX1_measureRests_104 : decode cX1_measureRests 104 = .ok (.getfield 27, 3) := by decide +kernel
theorem dX1_measureRests_107 : decode cX1_measureRests 107 = .ok (.iload_n 1, 1) := by decide +kernel
theorem dX1_measureRests_108 : decode cX1_measureRests 108 = .ok (.aaload, 1) := by decide +kernel
theorem dX1_measureRests_109 : decode cX1_measureRests 109 = .ok (.iload_n 2, 1) := by decide +kernel
theorem dX1_measureRests_110 : decode cX1_measureRests 110 = .ok (.iconst 1, 1) := by decide +kernel
theorem dX1_measureRests_111 : decode cX1_measureRests 111 = .ok (.iadd, 1) := by decide +kernel
theorem dX1_measureRests_112 : decode cX1_measureRests 112 = .ok (.iaload, 1) := by decide +kernel
theorem dX1_measureRests_113 : decode cX1_measureRests 113 = .ok (.invokestatic 48, 3) := by decide +kernel
theorem dX1_measureRests_116 : decode cX1_measureRests 116 = .ok (.iastore, 1) := by decide +kernel
theorem dX1_measureRests_117 : decode cX1_measureRests 117 = .ok (.iinc 2 (-1), 3) := by decide +kernel
theorem dX1_measureRests_120 : decode cX1_measureRests 120 = .ok (.goto (-106), 3) := by decide +kernel
theorem dX1_measureRests_123 : decode cX1_measureRests 123 = .ok (.iinc 1 (-1), 3) := by decide +kernel
theorem dX1_measureRests_126 : decode cX1_measureRests 126 = .ok (.goto (-121), 3) := by decide +kernel
theorem dX1_measureRests_129 : decode cX1_measureRests 129 = .ok (.return_, 1) := by decide +kernel
theorem dX1_pairLines_0 : decode cX1_pairLines 0 = .ok (.aload_n 0, 1) := by decide +kernel
theorem dX1_pairLines_1 : decode cX1_pairLines 1 = .ok (.getfield 30, 3) := by decide +kernel
theorem dX1_pairLines_4 : decode cX1_pairLines 4 = .ok (.iconst (-1), 1) := by decide +kernel
theorem dX1_pairLines_5 : decode cX1_pairLines 5 = .ok (.invokestatic 54, 3) := by decide +kernel
theorem dX1_pairLines_8 : decode cX1_pairLines 8 = .ok (.aload_n 0, 1) := by decide +kernel
theorem dX1_pairLines_9 : decode cX1_pairLines 9 = .ok (.iconst 0, 1) := by decide +kernel
theorem dX1_pairLines_10 : decode cX1_pairLines 10 = .ok (.putfield 33, 3) := by decide +kernel
theorem dX1_pairLines_13 : decode cX1_pairLines 13 = .ok (.iconst 0, 1) := by decide +kernel
theorem dX1_pairLines_14 : decode cX1_pairLines 14 = .ok (.istore_n 1, 1) := by decide +kernel
theorem dX1_pairLines_15 : decode cX1_pairLines 15 = .ok (.iconst 0, 1) := by decide +kernel
theorem dX1_pairLines_16 : decode cX1_pairLines 16 = .ok (.istore_n 2, 1) := by decide +kernel
theorem dX1_pairLines_17 : decode cX1_pairLines 17 = .ok (.iload_n 1, 1) := by decide +kernel
theorem dX1_pairLines_18 : decode cX1_pairLines 18 = .ok (.aload_n 0, 1) := by decide +kernel
theorem dX1_pairLines_19 : decode cX1_pairLines 19 = .ok (.getfield 18, 3) := by decide +kernel
theorem dX1_pairLines_22 : decode cX1_pairLines 22 = .ok (.if_icmp .ge 87, 3) := by decide +kernel
theorem dX1_pairLines_25 : decode cX1_pairLines 25 = .ok (.iload_n 2, 1) := by decide +kernel
theorem dX1_pairLines_26 : decode cX1_pairLines 26 = .ok (.aload_n 0, 1) := by decide +kernel
theorem dX1_pairLines_27 : decode cX1_pairLines 27 = .ok (.getfield 22, 3) := by decide +kernel
theorem dX1_pairLines_30 : decode cX1_pairLines 30 = .ok (.if_icmp .ge 79, 3) := by decide +kernel
theorem dX1_pairLines_33 : decode cX1_pairLines 33 = .ok (.aload_n 0, 1) := by decide +kernel
theorem dX1_pairLines_34 : decode cX1_pairLines 34 = .ok (.getfield 9, 3) := by decide +kernel
theorem dX1_pairLines_37 : decode cX1_pairLines 37 = .ok (.iload_n 1, 1) := by decide +kernel
theorem dX1_pairLines_38 : decode cX1_pairLines 38 = .ok (.iaload, 1) := by decide +kernel
theorem dX1_pairLines_39 : decode cX1_pairLines 39 = .ok (.aload_n 0, 1) := by decide +kernel
theorem dX1_pairLines_40 : decode cX1_pairLines 40 = .ok (.getfield 15, 3) := by decide +kernel
theorem dX1_pairLines_43 : decode cX1_pairLines 43 = .ok (.iload_n 2, 1) := by decide +kernel
theorem dX1_pairLines_44 : decode cX1_pairLines 44 = .ok (.iaload, 1) := by decide +kernel
theorem dX1_pairLines_45 : decode cX1_pairLines 45 = .ok (.if_icmp .ne 29, 3) := by decide +kernel
theorem dX1_pairLines_48 : decode cX1_pairLines 48 = .ok (.aload_n 0, 1) := by decide +kernel
theorem dX1_pairLines_49 : decode cX1_pairLines 49 = .ok (.getfield 30, 3) := by decide +kernel
theorem dX1_pairLines_52 : decode cX1_pairLines 52 = .ok (.iload_n 1, 1) := by decide +kernel
theorem dX1_pairLines_53 : decode cX1_pairLines 53 = .ok (.iload_n 2, 1) := by decide +kernel
theorem dX1_pairLines_54 : decode cX1_pairLines 54 = .ok (.iastore, 1) := by decide +kernel
theorem dX1_pairLines_55 : decode cX1_pairLines 55 = .ok (.aload_n 0, 1) := by decide +kernel
theorem dX1_pairLines_56 : decode cX1_pairLines 56 = .ok (.dup, 1) := by decide +kernel
theorem dX1_pairLines_57 : decode cX1_pairLines 57 = .ok (.getfield 33, 3) := by decide +kernel
theorem dX1_pairLines_60 : decode cX1_pairLines 60 = .ok (.iconst 1, 1) := by decide +kernel
theorem dX1_pairLines_61 : decode cX1_pairLines 61 = .ok (.iadd, 1) := by decide +kernel
theorem dX1_pairLines_62 : decode cX1_pairLines 62 = .ok (.putfield 33, 3) := by decide +kernel
theorem dX1_pairLines_65 : decode cX1_pairLines 65 = .ok (.iinc 1 1, 3) := by decide +kernel
theorem dX1_pairLines_68 : decode cX1_pairLines 68 = .ok (.iinc 2 1, 3) := by decide +kernel
theorem dX1_pairLines_71 : decode cX1_pairLines 71 = .ok (.goto (-54), 3) := by decide +kernel
theorem dX1_pairLines_74 : decode cX1_pairLines 74 = .ok (.aload_n 0, 1) := by decide +kernel
theorem dX1_pairLines_75 : decode cX1_pairLines 75 = .ok (.getfield 27, 3) := by decide +kernel
theorem dX1_pairLines_78 : decode cX1_pairLines 78 = .ok (.iload_n 1, 1) := by decide +kernel
theorem dX1_pairLines_79 : decode cX1_pairLines 79 = .ok (.iconst 1, 1) := by decide +kernel
theorem dX1_pairLines_80 : decode cX1_pairLines 80 = .ok (.iadd, 1) := by decide +kernel
theorem dX1_pairLines_81 : decode cX1_pairLines 81 = .ok (.aaload, 1) := by decide +kernel
theorem dX1_pairLines_82 : decode cX1_pairLines 82 = .ok (.iload_n 2, 1) := by decide +kernel
theorem dX1_pairLines_83 : decode cX1_pairLines 83 = .ok (.iaload, 1) := by decide +kernel
theorem dX1_pairLines_84 : decode cX1_pairLines 84 = .ok (.aload_n 0, 1) := by decide +kernel
theorem dX1_pairLines_85 : decode cX1_pairLines 85 = .ok (.getfield 27, 3) := by decide +kernel
theorem dX1_pairLines_88 : decode cX1_pairLines 88 = .ok (.iload_n 1, 1) := by decide +kernel
theorem dX1_pairLines_89 : decode cX1_pairLines 89 = .ok (.aaload, 1) := by decide +kernel
theorem dX1_pairLines_90 : decode cX1_pairLines 90 = .ok (.iload_n 2, 1) := by decide +kernel
theorem dX1_pairLines_91 : decode cX1_pairLines 91 = .ok (.iconst 1, 1) := by decide +kernel
theorem dX1_pairLines_92 : decode cX1_pairLines 92 = .ok (.iadd, 1) := by decide +kernel
theorem dX1_pairLines_93 : decode cX1_pairLines 93 = .ok (.iaload, 1) := by decide +kernel
theorem dX1_pairLines_94 : decode cX1_pairLines 94 = .ok (.if_icmp .lt 9, 3) := by decide +kernel
theorem dX1_pairLines_97 : decode cX1_pairLines 97 = .ok (.iinc 1 1, 3) := by decide +kernel
theorem dX1_pairLines_100 : decode cX1_pairLines 100 = .ok (.goto (-83), 3) := by decide +kernel
theorem dX1_pairLines_103 : decode cX1_pairLines 103 = .ok (.iinc 2 1, 3) := by decide +kernel
theorem dX1_pairLines_106 : decode cX1_pairLines 106 = .ok (.goto (-89), 3) := by decide +kernel
theorem dX1_pairLines_109 : decode cX1_pairLines 109 = .ok (.return_, 1) := by decide +kernel
theorem dX3_mergePart_0 : decode cX3_mergePart 0 = .ok (.aload_n 0, 1) := by decide +kernel
theorem dX3_mergePart_1 : decode cX3_mergePart 1 = .ok (.getfield 12, 3) := by decide +kernel
theorem dX3_mergePart_4 : decode cX3_mergePart 4 = .ok (.getfield 50, 3) := by decide +kernel
theorem dX3_mergePart_7 : decode cX3_mergePart 7 = .ok (.iload_n 1, 1) := by decide +kernel
theorem dX3_mergePart_8 : decode cX3_mergePart 8 = .ok (.iload_n 2, 1) := by decide +kernel
theorem dX3_mergePart_9 : decode cX3_mergePart 9 = .ok (.aload_n 0, 1) := by decide +kernel
theorem dX3_mergePart_10 : decode cX3_mergePart 10 = .ok (.getfield 12, 3) := by decide +kernel
theorem dX3_mergePart_13 : decode cX3_mergePart 13 = .ok (.getfield 60, 3) := by decide +kernel
theorem dX3_mergePart_16 : decode cX3_mergePart 16 = .ok (.iload_n 3, 1) := by decide +kernel
theorem dX3_mergePart_17 : decode cX3_mergePart 17 = .ok (.iload 4, 2) := by decide +kernel
theorem dX3_mergePart_19 : decode cX3_mergePart 19 = .ok (.invokestatic 63, 3) := by decide +kernel
theorem dX3_mergePart_22 : decode cX3_mergePart 22 = .ok (.ifCond .eq 21, 3) := by decide +kernel
theorem dX3_mergePart_25 : decode cX3_mergePart 25 = .ok (.aload_n 0, 1) := by decide +kernel
theorem dX3_mergePart_26 : decode cX3_mergePart 26 = .ok (.aload_n 0, 1) := by decide +kernel
theorem dX3_mergePart_27 : decode cX3_mergePart 27 = .ok (.getfield 18, 3) := by decide +kernel
theorem dX3_mergePart_30 : decode cX3_mergePart 30 = .ok (.getfield 60, 3) := by decide +kernel
theorem dX3_mergePart_33 : decode cX3_mergePart 33 = .ok (.iload 5, 2) := by decide +kernel
theorem dX3_mergePart_35 : decode cX3_mergePart 35 = .ok (.iload 6, 2) := by decide +kernel
theorem dX3_mergePart_37 : decode cX3_mergePart 37 = .ok (.invokevirtual 67, 3) := by decide +kernel
theorem dX3_mergePart_40 : decode cX3_mergePart 40 = .ok (.goto 125, 3) := by decide +kernel
theorem dX3_mergePart_43 : decode cX3_mergePart 43 = .ok (.aload_n 0, 1) := by decide +kernel
theorem dX3_mergePart_44 : decode cX3_mergePart 44 = .ok (.getfield 12, 3) := by decide +kernel
theorem dX3_mergePart_47 : decode cX3_mergePart 47 = .ok (.getfield 50, 3) := by decide +kernel
theorem dX3_mergePart_50 : decode cX3_mergePart 50 = .ok (.iload_n 1, 1) := by decide +kernel
theorem dX3_mergePart_51 : decode cX3_mergePart 51 = .ok (.iload_n 2, 1) := by decide +kernel
theorem dX3_mergePart_52 : decode cX3_mergePart 52 = .ok (.aload_n 0, 1) := by decide +kernel
theorem dX3_mergePart_53 : decode cX3_mergePart 53 = .ok (.getfield 18, 3) := by decide +kernel
theorem dX3_mergePart_56 : decode cX3_mergePart 56 = .ok (.getfield 60, 3) := by decide +kernel
theorem dX3_mergePart_59 : decode cX3_mergePart 59 = .ok (.iload 5, 2) := by decide +kernel
theorem dX3_mergePart_61 : decode cX3_mergePart 61 = .ok (.iload 6, 2) := by decide +kernel
theorem dX3_mergePart_63 : decode cX3_mergePart 63 = .ok (.invokestatic 63, 3) := by decide +kernel
theorem dX3_mergePart_66 : decode cX3_mergePart 66 = .ok (.ifCond .ne 30, 3) := by decide +kernel
theorem dX3_mergePart_69 : decode cX3_mergePart 69 = .ok (.aload_n 0, 1) := by decide +kernel
theorem dX3_mergePart_70 : decode cX3_mergePart 70 = .ok (.getfield 12, 3) := by decide +kernel
theorem dX3_mergePart_73 : decode cX3_mergePart 73 = .ok (.getfield 60, 3) := by decide +kernel
theorem dX3_mergePart_76 : decode cX3_mergePart 76 = .ok (.iload_n 3, 1) := by decide +kernel
theorem dX3_mergePart_77 : decode cX3_mergePart 77 = .ok (.iload 4, 2) := by decide +kernel
theorem dX3_mergePart_79 : decode cX3_mergePart 79 = .ok (.aload_n 0, 1) := by decide +kernel
theorem dX3_mergePart_80 : decode cX3_mergePart 80 = .ok (.getfield 18, 3) := by decide +kernel
theorem dX3_mergePart_83 : decode cX3_mergePart 83 = .ok (.getfield 60, 3) := by decide +kernel
theorem dX3_mergePart_86 : decode cX3_mergePart 86 = .ok (.iload 5, 2) := by decide +kernel
theorem dX3_mergePart_88 : decode cX3_mergePart 88 = .ok (.iload 6, 2) := by decide +kernel
theorem dX3_mergePart_90 : decode cX3_mergePart 90 = .ok (.invokestatic 63, 3) := by decide +kernel
theorem dX3_mergePart_93 : decode cX3_mergePart 93 = .ok (.ifCond .eq 20, 3) := by decide +kernel
theorem dX3_mergePart_96 : decode cX3_mergePart 96 = .ok (.aload_n 0, 1) := by decide +kernel
theorem dX3_mergePart_97 : decode cX3_mergePart 97 = .ok (.aload_n 0, 1) := by decide +kernel
theorem dX3_mergePart_98 : decode cX3_mergePart 98 = .ok (.getfield 12, 3) := by decide +kernel
theorem dX3_mergePart_101 : decode cX3_mergePart 101 = .ok (.getfield 60, 3) := by decide +kernel
theorem dX3_mergePart_104 : decode cX3_mergePart 104 = .ok (.iload_n 3, 1) := by decide +kernel
theorem dX3_mergePart_105 : decode cX3_mergePart 105 = .ok (.iload 4, 2) := by decide +kernel
theorem dX3_mergePart_107 : decode cX3_mergePart 107 = .ok (.invokevirtual 67, 3) := by decide +kernel
theorem dX3_mergePart_110 : decode cX3_mergePart 110 = .ok (.goto 55, 3) := by decide +kernel
theorem dX3_mergePart_113 : decode cX3_mergePart 113 = .ok (.aload_n 0, 1) := by decide +kernel
theorem dX3_mergePart_114 : decode cX3_mergePart 114 = .ok (.iconst 1, 1) := by decide +kernel
theorem dX3_mergePart_115 : decode cX3_mergePart 115 = .ok (.putfield 31, 3) := by decide +kernel
theorem dX3_mergePart_118 : decode cX3_mergePart 118 = .ok (.aload_n 0, 1) := by decide +kernel
theorem dX3_mergePart_119 : decode cX3_mergePart 119 = .ok (.bipush 17, 2) := by decide +kernel
theorem dX3_mergePart_121 : decode cX3_mergePart 121 = .ok (.invokevirtual 53, 3) := by decide +kernel
theorem dX3_mergePart_124 : decode cX3_mergePart 124 = .ok (.aload_n 0, 1) := by decide +kernel
theorem dX3_mergePart_125 : decode cX3_mergePart 125 = .ok (.aload_n 0, 1) := by decide +kernel
theorem dX3_mergePart_126 : decode cX3_mergePart 126 = .ok (.getfield 12, 3) := by decide +kernel
theorem dX3_mergePart_129 : decode cX3_mergePart 129 = .ok (.getfield 60, 3) := by decide +kernel
theorem dX3_mergePart_132 : decode cX3_mergePart 132 = .ok (.iload_n 3, 1) := by decide +kernel
theorem dX3_mergePart_133 : decode cX3_mergePart 133 = .ok (.iload 4, 2) := by decide +kernel
theorem dX3_mergePart_135 : decode cX3_mergePart 135 = .ok (.invokevirtual 67, 3) := by decide +kernel
theorem dX3_mergePart_138 : decode cX3_mergePart 138 = .ok (.aload_n 0, 1) := by decide +kernel
theorem dX3_mergePart_139 : decode cX3_mergePart 139 = .ok (.bipush 18, 2) := by decide +kernel
theorem dX3_mergePart_141 : decode cX3_mergePart 141 = .ok (.invokevirtual 53, 3) := by decide +kernel
theorem dX3_mergePart_144 : decode cX3_mergePart 144 = .ok (.aload_n 0, 1) := by decide +kernel
theorem dX3_mergePart_145 : decode cX3_mergePart 145 = .ok (.aload_n 0, 1) := by decide +kernel
theorem dX3_mergePart_146 : decode cX3_mergePart 146 = .ok (.getfield 18, 3) := by decide +kernel
theorem dX3_mergePart_149 : decode cX3_mergePart 149 = .ok (.getfield 60, 3) := by decide +kernel
theorem dX3_mergePart_152 : decode cX3_mergePart 152 = .ok (.iload 5, 2) := by decide +kernel
theorem dX3_mergePart_154 : decode cX3_mergePart 154 = .ok (.iload 6, 2) := by decide +kernel
theorem dX3_mergePart_156 : decode cX3_mergePart 156 = .ok (.invokevirtual 67, 3) := by decide +kernel
theorem dX3_mergePart_159 : decode cX3_mergePart 159 = .ok (.aload_n 0, 1) := by decide +kernel
theorem dX3_mergePart_160 : decode cX3_mergePart 160 = .ok (.bipush 19, 2) := by decide +kernel
theorem dX3_mergePart_162 : decode cX3_mergePart 162 = .ok (.invokevirtual 53, 3) := by decide +kernel
theorem dX3_mergePart_165 : decode cX3_mergePart 165 = .ok (.return_, 1) := by decide +kernel
theorem dX3_isSame_0 : decode cX3_isSame 0 = .ok (.iload_n 2, 1) := by decide +kernel
theorem dX3_isSame_1 : decode cX3_isSame 1 = .ok (.iload_n 1, 1) := by decide +kernel
theorem dX3_isSame_2 : decode cX3_isSame 2 = .ok (.isub, 1) := by decide +kernel
theorem dX3_isSame_3 : decode cX3_isSame 3 = .ok (.iload 5, 2) := by decide +kernel
theorem dX3_isSame_5 : decode cX3_isSame 5 = .ok (.iload 4, 2) := by decide +kernel
theorem dX3_isSame_7 : decode cX3_isSame 7 = .ok (.isub, 1) := by decide +kernel
theorem dX3_isSame_8 : decode cX3_isSame 8 = .ok (.if_icmp .eq 5, 3) := by decide +kernel
theorem dX3_isSame_11 : decode cX3_isSame 11 = .ok (.iconst 0, 1) := by decide +kernel
theorem dX3_isSame_12 : decode cX3_isSame 12 = .ok (.ireturn, 1) := by decide +kernel
theorem dX3_isSame_13 : decode cX3_isSame 13 = .ok (.iconst 0, 1) := by decide +kernel
theorem dX3_isSame_14 : decode cX3_isSame 14 = .ok (.istore 6, 2) := by decide +kernel
theorem dX3_isSame_16 : decode cX3_isSame 16 = .ok (.iload 6, 2) := by decide +kernel
theorem dX3_isSame_18 : decode cX3_isSame 18 = .ok (.iload_n 2, 1) := by decide +kernel
theorem dX3_isSame_19 : decode cX3_isSame 19 = .ok (.iload_n 1, 1) := by decide +kernel
theorem dX3_isSame_20 : decode cX3_isSame 20 = .ok (.isub, 1) := by decide +kernel
theorem dX3_isSame_21 : decode cX3_isSame 21 = .ok (.if_icmp .ge 27, 3) := by decide +kernel
theorem dX3_isSame_24 : decode cX3_isSame 24 = .ok (.aload_n 0, 1) := by decide +kernel
theorem dX3_isSame_25 : decode cX3_isSame 25 = .ok (.iload_n 1, 1) := by decide +kernel
theorem dX3_isSame_26 : decode cX3_isSame 26 = .ok (.iload 6, 2) := by decide +kernel
theorem dX3_isSame_28 : decode cX3_isSame 28 = .ok (.iadd, 1) := by decide +kernel
theorem dX3_isSame_29 : decode cX3_isSame 29 = .ok (.iaload, 1) := by decide +kernel
theorem dX3_isSame_30 : decode cX3_isSame 30 = .ok (.aload_n 3, 1) := by decide +kernel
theorem dX3_isSame_31 : decode cX3_isSame 31 = .ok (.iload 4, 2) := by decide +kernel
theorem dX3_isSame_33 : decode cX3_isSame 33 = .ok (.iload 6, 2) := by decide +kernel
theorem dX3_isSame_35 : decode cX3_isSame 35 = .ok (.iadd, 1) := by decide +kernel
theorem dX3_isSame_36 : decode cX3_isSame 36 = .ok (.iaload, 1) := by decide +kernel
theorem dX3_isSame_37 : decode cX3_isSame 37 = .ok (.if_icmp .eq 5, 3) := by decide +kernel
theorem dX3_isSame_40 : decode cX3_isSame 40 = .ok (.iconst 0, 1) := by decide +kernel
theorem dX3_isSame_41 : decode cX3_isSame 41 = .ok (.ireturn, 1) := by decide +kernel
theorem dX3_isSame_42 : decode cX3_isSame 42 = .ok (.iinc 6 1, 3) := by decide +kernel
theorem dX3_isSame_45 : decode cX3_isSame 45 = .ok (.goto (-29), 3) := by decide +kernel
theorem dX3_isSame_48 : decode cX3_isSame 48 = .ok (.iconst 1, 1) := by decide +kernel
theorem dX3_isSame_49 : decode cX3_isSame 49 = .ok (.ireturn, 1) := by decide +kernel
theorem dX3_takeAll_0 : decode cX3_takeAll 0 = .ok (.iload_n 2, 1) := by decide +kernel
theorem dX3_takeAll_1 : decode cX3_takeAll 1 = .ok (.istore 4, 2) := by decide +kernel
theorem dX3_takeAll_3 : decode cX3_takeAll 3 = .ok (.iload 4, 2) := by decide +kernel
theorem dX3_takeAll_5 : decode cX3_takeAll 5 = .ok (.iload_n 3, 1) := by decide +kernel
theorem dX3_takeAll_6 : decode cX3_takeAll 6 = .ok (.if_icmp .ge 17, 3) := by decide +kernel
theorem dX3_takeAll_9 : decode cX3_takeAll 9 = .ok (.aload_n 0, 1) := by decide +kernel
theorem dX3_takeAll_10 : decode cX3_takeAll 10 = .ok (.aload_n 1, 1) := by decide +kernel
theorem dX3_takeAll_11 : decode cX3_takeAll 11 = .ok (.iload 4, 2) := by decide +kernel
theorem dX3_takeAll_13 : decode cX3_takeAll 13 = .ok (.iaload, 1) := by decide +kernel
theorem dX3_takeAll_14 : decode cX3_takeAll 14 = .ok (.invokevirtual 53, 3) := by decide +kernel
theorem dX3_takeAll_17 : decode cX3_takeAll 17 = .ok (.iinc 4 1, 3) := by decide +kernel
theorem dX3_takeAll_20 : decode cX3_takeAll 20 = .ok (.goto (-17), 3) := by decide +kernel
theorem dX3_takeAll_23 : decode cX3_takeAll 23 = .ok (.return_, 1) := by decide +kernel
theorem dX3_take_0 : decode cX3_take 0 = .ok (.aload_n 0, 1) := by decide +kernel
theorem dX3_take_1 : decode cX3_take 1 = .ok (.getfield 27, 3) := by decide +kernel
theorem dX3_take_4 : decode cX3_take 4 = .ok (.bipush 12, 2) := by decide +kernel
theorem dX3_take_6 : decode cX3_take 6 = .ok (.if_icmp .ge 18, 3) := by decide +kernel
theorem dX3_take_9 : decode cX3_take 9 = .ok (.aload_n 0, 1) := by decide +kernel
theorem dX3_take_10 : decode cX3_take 10 = .ok (.aload_n 0, 1) := by decide +kernel
theorem dX3_take_11 : decode cX3_take 11 = .ok (.getfield 23, 3) := by decide +kernel
theorem dX3_take_14 : decode cX3_take 14 = .ok (.ldc2_w 71, 3) := by decide +kernel
theorem dX3_take_17 : decode cX3_take 17 = .ok (.lmul, 1) := by decide +kernel
theorem dX3_take_18 : decode cX3_take 18 = .ok (.iload_n 1, 1) := by decide +kernel
theorem dX3_take_19 : decode cX3_take 19 = .ok (.i2l, 1) := by decide +kernel
theorem dX3_take_20 : decode cX3_take 20 = .ok (.ladd, 1) := by decide +kernel
theorem dX3_take_21 : decode cX3_take 21 = .ok (.putfield 23, 3) := by decide +kernel
theorem dX3_take_24 : decode cX3_take 24 = .ok (.aload_n 0, 1) := by decide +kernel
theorem dX3_take_25 : decode cX3_take 25 = .ok (.dup, 1) := by decide +kernel
theorem dX3_take_26 : decode cX3_take 26 = .ok (.getfield 27, 3) := by decide +kernel
theorem dX3_take_29 : decode cX3_take 29 = .ok (.iconst 1, 1) := by decide +kernel
theorem dX3_take_30 : decode cX3_take 30 = .ok (.iadd, 1) := by decide +kernel
theorem dX3_take_31 : decode cX3_take 31 = .ok (.putfield 27, 3) := by decide +kernel
theorem dX3_take_34 : decode cX3_take 34 = .ok (.return_, 1) := by decide +kernel
theorem dX3_isTooLong_0 : decode cX3_isTooLong 0 = .ok (.aload_n 0, 1) := by decide +kernel
theorem dX3_isTooLong_1 : decode cX3_isTooLong 1 = .ok (.getfield 27, 3) := by decide +kernel
theorem dX3_isTooLong_4 : decode cX3_isTooLong 4 = .ok (.bipush 12, 2) := by decide +kernel
theorem dX3_isTooLong_6 : decode cX3_isTooLong 6 = .ok (.if_icmp .le 7, 3) := by decide +kernel
theorem dX3_isTooLong_9 : decode cX3_isTooLong 9 = .ok (.iconst 1, 1) := by decide +kernel
theorem dX3_isTooLong_10 : decode cX3_isTooLong 10 = .ok (.goto 4, 3) := by decide +kernel
theorem dX3_isTooLong_13 : decode cX3_isTooLong 13 = .ok (.iconst 0, 1) := by decide +kernel
theorem dX3_isTooLong_14 : decode cX3_isTooLong 14 = .ok (.ireturn, 1) := by decide +kernel
theorem dX5_tag_0 : decode cX5_tag 0 = .ok (.iload_n 1, 1) := by decide +kernel
theorem dX5_tag_1 : decode cX5_tag 1 = .ok (.invokestatic 41, 3) := by decide +kernel
theorem dX5_tag_4 : decode cX5_tag 4 = .ok (.ifCond .eq 17, 3) := by decide +kernel
theorem dX5_tag_7 : decode cX5_tag 7 = .ok (.iload_n 2, 1) := by decide +kernel
theorem dX5_tag_8 : decode cX5_tag 8 = .ok (.invokestatic 45, 3) := by decide +kernel
theorem dX5_tag_11 : decode cX5_tag 11 = .ok (.ifCond .eq 10, 3) := by decide +kernel
theorem dX5_tag_14 : decode cX5_tag 14 = .ok (.iload_n 3, 1) := by decide +kernel
theorem dX5_tag_15 : decode cX5_tag 15 = .ok (.invokestatic 118, 3) := by decide +kernel
theorem dX5_tag_18 : decode cX5_tag 18 = .ok (.ifCond .ne 5, 3) := by decide +kernel
theorem dX5_tag_21 : decode cX5_tag 21 = .ok (.iconst 0, 1) := by decide +kernel
theorem dX5_tag_22 : decode cX5_tag 22 = .ok (.ireturn, 1) := by decide +kernel
theorem dX5_tag_23 : decode cX5_tag 23 = .ok (.aload_n 0, 1) := by decide +kernel
theorem dX5_tag_24 : decode cX5_tag 24 = .ok (.iload_n 1, 1) := by decide +kernel
theorem dX5_tag_25 : decode cX5_tag 25 = .ok (.iload_n 2, 1) := by decide +kernel
theorem dX5_tag_26 : decode cX5_tag 26 = .ok (.invokevirtual 48, 3) := by decide +kernel
theorem dX5_tag_29 : decode cX5_tag 29 = .ok (.astore 5, 2) := by decide +kernel
theorem dX5_tag_31 : decode cX5_tag 31 = .ok (.aload_n 0, 1) := by decide +kernel
theorem dX5_tag_32 : decode cX5_tag 32 = .ok (.getfield 11, 3) := by decide +kernel
theorem dX5_tag_35 : decode cX5_tag 35 = .ok (.iload_n 2, 1) := by decide +kernel
theorem dX5_tag_36 : decode cX5_tag 36 = .ok (.aaload, 1) := by decide +kernel
theorem dX5_tag_37 : decode cX5_tag 37 = .ok (.astore 6, 2) := by decide +kernel
theorem dX5_tag_39 : decode cX5_tag 39 = .ok (.iload 4, 2) := by decide +kernel
theorem dX5_tag_41 : decode cX5_tag 41 = .ok (.ifCond .eq 7, 3) := by decide +kernel
theorem dX5_tag_44 : decode cX5_tag 44 = .ok (.iconst 2, 1) := by decide +kernel
theorem dX5_tag_45 : decode cX5_tag 45 = .ok (.goto 4, 3) := by decide +kernel
theorem dX5_tag_48 : decode cX5_tag 48 = .ok (.iconst 1, 1) := by decide +kernel
theorem dX5_tag_49 : decode cX5_tag 49 = .ok (.istore 7, 2) := by decide +kernel
theorem dX5_tag_51 : decode cX5_tag 51 = .ok (.aload 5, 2) := by decide +kernel
theorem dX5_tag_53 : decode cX5_tag 53 = .ok (.invokevirtual 76, 3) := by decide +kernel
theorem dX5_tag_56 : decode cX5_tag 56 = .ok (.ifCond .eq 23, 3) := by decide +kernel
theorem dX5_tag_59 : decode cX5_tag 59 = .ok (.aload_n 0, 1) := by decide +kernel
theorem dX5_tag_60 : decode cX5_tag 60 = .ok (.getfield 23, 3) := by decide +kernel
theorem dX5_tag_63 : decode cX5_tag 63 = .ok (.iload_n 3, 1) := by decide +kernel
theorem dX5_tag_64 : decode cX5_tag 64 = .ok (.iaload, 1) := by decide +kernel
theorem dX5_tag_65 : decode cX5_tag 65 = .ok (.ifCond .eq 16, 3) := by decide +kernel
theorem dX5_tag_68 : decode cX5_tag 68 = .ok (.aload_n 0, 1) := by decide +kernel
theorem dX5_tag_69 : decode cX5_tag 69 = .ok (.getfield 23, 3) := by decide +kernel
theorem dX5_tag_72 : decode cX5_tag 72 = .ok (.iload_n 3, 1) := by decide +kernel
theorem dX5_tag_73 : decode cX5_tag 73 = .ok (.iaload, 1) := by decide +kernel
theorem dX5_tag_74 : decode cX5_tag 74 = .ok (.iload 7, 2) := by decide +kernel
theorem dX5_tag_76 : decode cX5_tag 76 = .ok (.if_icmp .eq 5, 3) := by decide +kernel
theorem dX5_tag_79 : decode cX5_tag 79 = .ok (.iconst 0, 1) := by decide +kernel
theorem dX5_tag_80 : decode cX5_tag 80 = .ok (.ireturn, 1) := by decide +kernel
theorem dX5_tag_81 : decode cX5_tag 81 = .ok (.iload 4, 2) := by decide +kernel
theorem dX5_tag_83 : decode cX5_tag 83 = .ok (.ifCond .eq 26, 3) := by decide +kernel
theorem dX5_tag_86 : decode cX5_tag 86 = .ok (.aload 6, 2) := by decide +kernel
theorem dX5_tag_88 : decode cX5_tag 88 = .ok (.getfield 121, 3) := by decide +kernel
theorem dX5_tag_91 : decode cX5_tag 91 = .ok (.iload_n 3, 1) := by decide +kernel
theorem dX5_tag_92 : decode cX5_tag 92 = .ok (.iaload, 1) := by decide +kernel
theorem dX5_tag_93 : decode cX5_tag 93 = .ok (.iconst (-1), 1) := by decide +kernel
theorem dX5_tag_94 : decode cX5_tag 94 = .ok (.if_icmp .ne 13, 3) := by decide +kernel
theorem dX5_tag_97 : decode cX5_tag 97 = .ok (.aload 6, 2) := by decide +kernel
theorem dX5_tag_99 : decode cX5_tag 99 = .ok (.iconst 0, 1) := by decide +kernel
theorem dX5_tag_100 : decode cX5_tag 100 = .ok (.iconst 1, 1) := by decide +kernel
theorem dX5_tag_101 : decode cX5_tag 101 = .ok (.invokevirtual 124, 3) := by decide +kernel
theorem dX5_tag_104 : decode cX5_tag 104 = .ok (.ifCond .ne 5, 3) := by decide +kernel
theorem dX5_tag_107 : decode cX5_tag 107 = .ok (.iconst 0, 1) := by decide +kernel
theorem dX5_tag_108 : decode cX5_tag 108 = .ok (.ireturn, 1) := by decide +kernel
theorem dX5_tag_109 : decode cX5_tag 109 = .ok (.aload_n 0, 1) := by decide +kernel
theorem dX5_tag_110 : decode cX5_tag 110 = .ok (.getfield 23, 3) := by decide +kernel
theorem dX5_tag_113 : decode cX5_tag 113 = .ok (.iload_n 3, 1) := by decide +kernel
theorem dX5_tag_114 : decode cX5_tag 114 = .ok (.iload 7, 2) := by decide +kernel
theorem dX5_tag_116 : decode cX5_tag 116 = .ok (.iastore, 1) := by decide +kernel
theorem dX5_tag_117 : decode cX5_tag 117 = .ok (.aload 6, 2) := by decide +kernel
theorem dX5_tag_119 : decode cX5_tag 119 = .ok (.getfield 121, 3) := by decide +kernel
theorem dX5_tag_122 : decode cX5_tag 122 = .ok (.iload_n 3, 1) := by decide +kernel
theorem dX5_tag_123 : decode cX5_tag 123 = .ok (.iload 4, 2) := by decide +kernel
theorem dX5_tag_125 : decode cX5_tag 125 = .ok (.ifCond .eq 16, 3) := by decide +kernel
theorem dX5_tag_128 : decode cX5_tag 128 = .ok (.aload 6, 2) := by decide +kernel
theorem dX5_tag_130 : decode cX5_tag 130 = .ok (.aload 5, 2) := by decide +kernel
theorem dX5_tag_132 : decode cX5_tag 132 = .ok (.getfield 128, 3) := by decide +kernel
theorem dX5_tag_135 : decode cX5_tag 135 = .ok (.invokevirtual 131, 3) := by decide +kernel
theorem dX5_tag_138 : decode cX5_tag 138 = .ok (.goto 8, 3) := by decide +kernel
theorem dX5_tag_141 : decode cX5_tag 141 = .ok (.aload 5, 2) := by decide +kernel
theorem dX5_tag_143 : decode cX5_tag 143 = .ok (.getfield 128, 3) := by decide +kernel
theorem dX5_tag_146 : decode cX5_tag 146 = .ok (.iastore, 1) := by decide +kernel
theorem dX5_tag_147 : decode cX5_tag 147 = .ok (.iconst 1, 1) := by decide +kernel
theorem dX5_tag_148 : decode cX5_tag 148 = .ok (.ireturn, 1) := by decide +kernel
theorem dX5_bring_0 : decode cX5_bring 0 = .ok (.iload_n 1, 1) := by decide +kernel
theorem dX5_bring_1 : decode cX5_bring 1 = .ok (.invokestatic 45, 3) := by decide +kernel
theorem dX5_bring_4 : decode cX5_bring 4 = .ok (.ifCond .eq 10, 3) := by decide +kernel
theorem dX5_bring_7 : decode cX5_bring 7 = .ok (.lload_n 2, 1) := by decide +kernel
theorem dX5_bring_8 : decode cX5_bring 8 = .ok (.invokestatic 56, 3) := by decide +kernel
theorem dX5_bring_11 : decode cX5_bring 11 = .ok (.ifCond .ne 5, 3) := by decide +kernel
theorem dX5_bring_14 : decode cX5_bring 14 = .ok (.iconst (-1), 1) := by decide +kernel
theorem dX5_bring_15 : decode cX5_bring 15 = .ok (.ireturn, 1) := by decide +kernel
theorem dX5_bring_16 : decode cX5_bring 16 = .ok (.aload_n 0, 1) := by decide +kernel
theorem dX5_bring_17 : decode cX5_bring 17 = .ok (.getfield 11, 3) := by decide +kernel
theorem dX5_bring_20 : decode cX5_bring 20 = .ok (.iload_n 1, 1) := by decide +kernel
theorem dX5_bring_21 : decode cX5_bring 21 = .ok (.aaload, 1) := by decide +kernel
theorem dX5_bring_22 : decode cX5_bring 22 = .ok (.astore 4, 2) := by decide +kernel
theorem dX5_bring_24 : decode cX5_bring 24 = .ok (.aload 4, 2) := by decide +kernel
theorem dX5_bring_26 : decode cX5_bring 26 = .ok (.invokevirtual 135, 3) := by decide +kernel
theorem dX5_bring_29 : decode cX5_bring 29 = .ok (.ifCond .ne 7, 3) := by decide +kernel
theorem dX5_bring_32 : decode cX5_bring 32 = .ok (.iconst 1, 1) := by decide +kernel
theorem dX5_bring_33 : decode cX5_bring 33 = .ok (.goto 4, 3) := by decide +kernel
theorem dX5_bring_36 : decode cX5_bring 36 = .ok (.iconst 0, 1) := by decide +kernel
theorem dX5_bring_37 : decode cX5_bring 37 = .ok (.istore 5, 2) := by decide +kernel
theorem dX5_bring_39 : decode cX5_bring 39 = .ok (.aload 4, 2) := by decide +kernel
theorem dX5_bring_41 : decode cX5_bring 41 = .ok (.iload 5, 2) := by decide +kernel
theorem dX5_bring_43 : decode cX5_bring 43 = .ok (.ifCond .eq 7, 3) := by decide +kernel
theorem dX5_bring_46 : decode cX5_bring 46 = .ok (.iconst 2, 1) := by decide +kernel
theorem dX5_bring_47 : decode cX5_bring 47 = .ok (.goto 4, 3) := by decide +kernel
theorem dX5_bring_50 : decode cX5_bring 50 = .ok (.iconst 1, 1) := by decide +kernel
theorem dX5_bring_51 : decode cX5_bring 51 = .ok (.aload 4, 2) := by decide +kernel
theorem dX5_bring_53 : decode cX5_bring 53 = .ok (.getfield 138, 3) := by decide +kernel
theorem dX5_bring_56 : decode cX5_bring 56 = .ok (.iconst (-1), 1) := by decide +kernel
theorem dX5_bring_57 : decode cX5_bring 57 = .ok (.if_icmp .ne 7, 3) := by decide +kernel
theorem dX5_bring_60 : decode cX5_bring 60 = .ok (.iconst 1, 1) := by decide +kernel
theorem dX5_bring_61 : decode cX5_bring 61 = .ok (.goto 4, 3) := by decide +kernel
theorem dX5_bring_64 : decode cX5_bring 64 = .ok (.iconst 0, 1) := by decide +kernel
theorem dX5_bring_65 : decode cX5_bring 65 = .ok (.invokevirtual 124, 3) := by decide +kernel
theorem dX5_bring_68 : decode cX5_bring 68 = .ok (.ifCond .ne 6, 3) := by decide +kernel
theorem dX5_bring_71 : decode cX5_bring 71 = .ok (.bipush (-7), 2) := by decide +kernel
theorem dX5_bring_73 : decode cX5_bring 73 = .ok (.ireturn, 1) := by decide +kernel
theorem dX5_bring_74 : decode cX5_bring 74 = .ok (.iload 5, 2) := by decide +kernel
theorem dX5_bring_76 : decode cX5_bring 76 = .ok (.ifCond .eq 12, 3) := by decide +kernel
theorem dX5_bring_79 : decode cX5_bring 79 = .ok (.aload 4, 2) := by decide +kernel
theorem dX5_bring_81 : decode cX5_bring 81 = .ok (.iconst 0, 1) := by decide +kernel
theorem dX5_bring_82 : decode cX5_bring 82 = .ok (.lload_n 2, 1) := by decide +kernel
theorem dX5_bring_83 : decode cX5_bring 83 = .ok (.iconst 0, 1) := by decide +kernel
theorem dX5_bring_84 : decode cX5_bring 84 = .ok (.invokevirtual 141, 3) := by decide +kernel
theorem dX5_bring_87 : decode cX5_bring 87 = .ok (.pop, 1) := by decide +kernel
theorem dX5_bring_88 : decode cX5_bring 88 = .ok (.aload 4, 2) := by decide +kernel
theorem dX5_bring_90 : decode cX5_bring 90 = .ok (.getfield 138, 3) := by decide +kernel
theorem dX5_bring_93 : decode cX5_bring 93 = .ok (.iconst (-1), 1) := by decide +kernel
theorem dX5_bring_94 : decode cX5_bring 94 = .ok (.if_icmp .ne 8, 3) := by decide +kernel
theorem dX5_bring_97 : decode cX5_bring 97 = .ok (.aload 4, 2) := by decide +kernel
theorem dX5_bring_99 : decode cX5_bring 99 = .ok (.invokevirtual 145, 3) := by decide +kernel
theorem dX5_bring_102 : decode cX5_bring 102 = .ok (.iload 5, 2) := by decide +kernel
theorem dX5_bring_104 : decode cX5_bring 104 = .ok (.ifCond .eq 13, 3) := by decide +kernel
theorem dX5_bring_107 : decode cX5_bring 107 = .ok (.aload 4, 2) := by decide +kernel
theorem dX5_bring_109 : decode cX5_bring 109 = .ok (.aload 4, 2) := by decide +kernel
theorem dX5_bring_111 : decode cX5_bring 111 = .ok (.getfield 138, 3) := by decide +kernel
theorem dX5_bring_114 : decode cX5_bring 114 = .ok (.putfield 148, 3) := by decide +kernel
theorem dX5_bring_117 : decode cX5_bring 117 = .ok (.aload 4, 2) := by decide +kernel
theorem dX5_bring_119 : decode cX5_bring 119 = .ok (.aload 4, 2) := by decide +kernel
theorem dX5_bring_121 : decode cX5_bring 121 = .ok (.getfield 138, 3) := by decide +kernel
theorem dX5_bring_124 : decode cX5_bring 124 = .ok (.lload_n 2, 1) := by decide +kernel
theorem dX5_bring_125 : decode cX5_bring 125 = .ok (.iconst 0, 1) := by decide +kernel
theorem dX5_bring_126 : decode cX5_bring 126 = .ok (.invokevirtual 141, 3) := by decide +kernel
theorem dX5_bring_129 : decode cX5_bring 129 = .ok (.ireturn, 1) := by decide +kernel
