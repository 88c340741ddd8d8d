/-! what the bytes say -/
theorem dX2_openVendorBranch_0 : decode cX2_openVendorBranch 0 = .ok (.aload_n 0, 1) := by decide +kernel
theorem dX2_openVendorBranch_1 : decode cX2_openVendorBranch 1 = .ok (.aload_n 0, 1) := by decide +kernel
theorem dX2_openVendorBranch_2 : decode cX2_openVendorBranch 2 = .ok (.iconst 0, 1) := by decide +kernel
theorem dX2_openVendorBranch_3 : decode cX2_openVendorBranch 3 = .ok (.iconst 1, 1) := by decide +kernel
theorem dX2_openVendorBranch_4 : decode cX2_openVendorBranch 4 = .ok (.invokevirtual 67, 3) := by decide +kernel
theorem dX2_openVendorBranch_7 : decode cX2_openVendorBranch 7 = .ok (.putfield 48, 3) := by decide +kernel
theorem dX2_openVendorBranch_10 : decode cX2_openVendorBranch 10 = .ok (.return_, 1) := by decide +kernel
theorem dX5_entry_0 : decode cX5_entry 0 = .ok (.iload_n 1, 1) := by decide +kernel
theorem dX5_entry_1 : decode cX5_entry 1 = .ok (.invokestatic 41, 3) := by decide +kernel
theorem dX5_entry_4 : decode cX5_entry 4 = .ok (.ifCond .eq 22, 3) := by decide +kernel
theorem dX5_entry_7 : decode cX5_entry 7 = .ok (.iload_n 2, 1) := by decide +kernel
theorem dX5_entry_8 : decode cX5_entry 8 = .ok (.invokestatic 45, 3) := by decide +kernel
theorem dX5_entry_11 : decode cX5_entry 11 = .ok (.ifCond .eq 15, 3) := by decide +kernel
theorem dX5_entry_14 : decode cX5_entry 14 = .ok (.aload_n 0, 1) := by decide +kernel
theorem dX5_entry_15 : decode cX5_entry 15 = .ok (.iload_n 1, 1) := by decide +kernel
theorem dX5_entry_16 : decode cX5_entry 16 = .ok (.iload_n 2, 1) := by decide +kernel
theorem dX5_entry_17 : decode cX5_entry 17 = .ok (.invokevirtual 48, 3) := by decide +kernel
theorem dX5_entry_20 : decode cX5_entry 20 = .ok (.getfield 128, 3) := by decide +kernel
theorem dX5_entry_23 : decode cX5_entry 23 = .ok (.goto 4, 3) := by decide +kernel
theorem dX5_entry_26 : decode cX5_entry 26 = .ok (.iconst (-1), 1) := by decide +kernel
theorem dX5_entry_27 : decode cX5_entry 27 = .ok (.ireturn, 1) := by decide +kernel
theorem dX5_removed_0 : decode cX5_removed 0 = .ok (.iload_n 1, 1) := by decide +kernel
theorem dX5_removed_1 : decode cX5_removed 1 = .ok (.invokestatic 41, 3) := by decide +kernel
theorem dX5_removed_4 : decode cX5_removed 4 = .ok (.ifCond .eq 26, 3) := by decide +kernel
theorem dX5_removed_7 : decode cX5_removed 7 = .ok (.iload_n 2, 1) := by decide +kernel
theorem dX5_removed_8 : decode cX5_removed 8 = .ok (.invokestatic 45, 3) := by decide +kernel
theorem dX5_removed_11 : decode cX5_removed 11 = .ok (.ifCond .eq 19, 3) := by decide +kernel
theorem dX5_removed_14 : decode cX5_removed 14 = .ok (.aload_n 0, 1) := by decide +kernel
theorem dX5_removed_15 : decode cX5_removed 15 = .ok (.iload_n 1, 1) := by decide +kernel
theorem dX5_removed_16 : decode cX5_removed 16 = .ok (.iload_n 2, 1) := by decide +kernel
theorem dX5_removed_17 : decode cX5_removed 17 = .ok (.invokevirtual 48, 3) := by decide +kernel
theorem dX5_removed_20 : decode cX5_removed 20 = .ok (.getfield 89, 3) := by decide +kernel
theorem dX5_removed_23 : decode cX5_removed 23 = .ok (.ifCond .eq 7, 3) := by decide +kernel
theorem dX5_removed_26 : decode cX5_removed 26 = .ok (.iconst 1, 1) := by decide +kernel
theorem dX5_removed_27 : decode cX5_removed 27 = .ok (.goto 4, 3) := by decide +kernel
theorem dX5_removed_30 : decode cX5_removed 30 = .ok (.iconst 0, 1) := by decide +kernel
theorem dX5_removed_31 : decode cX5_removed 31 = .ok (.ireturn, 1) := by decide +kernel
theorem dX5_local_0 : decode cX5_local 0 = .ok (.iload_n 1, 1) := by decide +kernel
theorem dX5_local_1 : decode cX5_local 1 = .ok (.invokestatic 41, 3) := by decide +kernel
theorem dX5_local_4 : decode cX5_local 4 = .ok (.ifCond .eq 10, 3) := by decide +kernel
theorem dX5_local_7 : decode cX5_local 7 = .ok (.iload_n 2, 1) := by decide +kernel
theorem dX5_local_8 : decode cX5_local 8 = .ok (.invokestatic 45, 3) := by decide +kernel
theorem dX5_local_11 : decode cX5_local 11 = .ok (.ifCond .ne 7, 3) := by decide +kernel
theorem dX5_local_14 : decode cX5_local 14 = .ok (.ldc2_w 151, 3) := by decide +kernel
theorem dX5_local_17 : decode cX5_local 17 = .ok (.lreturn, 1) := by decide +kernel
theorem dX5_local_18 : decode cX5_local 18 = .ok (.aload_n 0, 1) := by decide +kernel
theorem dX5_local_19 : decode cX5_local 19 = .ok (.iload_n 1, 1) := by decide +kernel
theorem dX5_local_20 : decode cX5_local 20 = .ok (.iload_n 2, 1) := by decide +kernel
theorem dX5_local_21 : decode cX5_local 21 = .ok (.invokevirtual 48, 3) := by decide +kernel
theorem dX5_local_24 : decode cX5_local 24 = .ok (.astore_n 3, 1) := by decide +kernel
theorem dX5_local_25 : decode cX5_local 25 = .ok (.aload_n 3, 1) := by decide +kernel
theorem dX5_local_26 : decode cX5_local 26 = .ok (.invokevirtual 66, 3) := by decide +kernel
theorem dX5_local_29 : decode cX5_local 29 = .ok (.ifCond .eq 10, 3) := by decide +kernel
theorem dX5_local_32 : decode cX5_local 32 = .ok (.aload_n 3, 1) := by decide +kernel
theorem dX5_local_33 : decode cX5_local 33 = .ok (.getfield 72, 3) := by decide +kernel
theorem dX5_local_36 : decode cX5_local 36 = .ok (.goto 6, 3) := by decide +kernel
theorem dX5_local_39 : decode cX5_local 39 = .ok (.ldc2_w 151, 3) := by decide +kernel
theorem dX5_local_42 : decode cX5_local 42 = .ok (.lreturn, 1) := by decide +kernel
theorem dX5_selected_0 : decode cX5_selected 0 = .ok (.iload_n 1, 1) := by decide +kernel
theorem dX5_selected_1 : decode cX5_selected 1 = .ok (.invokestatic 41, 3) := by decide +kernel
theorem dX5_selected_4 : decode cX5_selected 4 = .ok (.ifCond .eq 10, 3) := by decide +kernel
theorem dX5_selected_7 : decode cX5_selected 7 = .ok (.iload_n 2, 1) := by decide +kernel
theorem dX5_selected_8 : decode cX5_selected 8 = .ok (.invokestatic 45, 3) := by decide +kernel
theorem dX5_selected_11 : decode cX5_selected 11 = .ok (.ifCond .ne 5, 3) := by decide +kernel
theorem dX5_selected_14 : decode cX5_selected 14 = .ok (.iconst (-1), 1) := by decide +kernel
theorem dX5_selected_15 : decode cX5_selected 15 = .ok (.ireturn, 1) := by decide +kernel
theorem dX5_selected_16 : decode cX5_selected 16 = .ok (.aload_n 0, 1) := by decide +kernel
theorem dX5_selected_17 : decode cX5_selected 17 = .ok (.aload_n 0, 1) := by decide +kernel
theorem dX5_selected_18 : decode cX5_selected 18 = .ok (.getfield 11, 3) := by decide +kernel
theorem dX5_selected_21 : decode cX5_selected 21 = .ok (.iload_n 2, 1) := by decide +kernel
theorem dX5_selected_22 : decode cX5_selected 22 = .ok (.aaload, 1) := by decide +kernel
theorem dX5_selected_23 : decode cX5_selected 23 = .ok (.aload_n 0, 1) := by decide +kernel
theorem dX5_selected_24 : decode cX5_selected 24 = .ok (.iload_n 1, 1) := by decide +kernel
theorem dX5_selected_25 : decode cX5_selected 25 = .ok (.iload_n 2, 1) := by decide +kernel
theorem dX5_selected_26 : decode cX5_selected 26 = .ok (.invokevirtual 48, 3) := by decide +kernel
theorem dX5_selected_29 : decode cX5_selected 29 = .ok (.getfield 114, 3) := by decide +kernel
theorem dX5_selected_32 : decode cX5_selected 32 = .ok (.invokevirtual 106, 3) := by decide +kernel
theorem dX5_selected_35 : decode cX5_selected 35 = .ok (.ireturn, 1) := by decide +kernel
theorem dX5_sticky_0 : decode cX5_sticky 0 = .ok (.iload_n 1, 1) := by decide +kernel
theorem dX5_sticky_1 : decode cX5_sticky 1 = .ok (.invokestatic 41, 3) := by decide +kernel
theorem dX5_sticky_4 : decode cX5_sticky 4 = .ok (.ifCond .eq 22, 3) := by decide +kernel
theorem dX5_sticky_7 : decode cX5_sticky 7 = .ok (.iload_n 2, 1) := by decide +kernel
theorem dX5_sticky_8 : decode cX5_sticky 8 = .ok (.invokestatic 45, 3) := by decide +kernel
theorem dX5_sticky_11 : decode cX5_sticky 11 = .ok (.ifCond .eq 15, 3) := by decide +kernel
theorem dX5_sticky_14 : decode cX5_sticky 14 = .ok (.aload_n 0, 1) := by decide +kernel
theorem dX5_sticky_15 : decode cX5_sticky 15 = .ok (.iload_n 1, 1) := by decide +kernel
theorem dX5_sticky_16 : decode cX5_sticky 16 = .ok (.iload_n 2, 1) := by decide +kernel
theorem dX5_sticky_17 : decode cX5_sticky 17 = .ok (.invokevirtual 48, 3) := by decide +kernel
theorem dX5_sticky_20 : decode cX5_sticky 20 = .ok (.getfield 114, 3) := by decide +kernel
theorem dX5_sticky_23 : decode cX5_sticky 23 = .ok (.goto 4, 3) := by decide +kernel
theorem dX5_sticky_26 : decode cX5_sticky 26 = .ok (.iconst (-1), 1) := by decide +kernel
theorem dX5_sticky_27 : decode cX5_sticky 27 = .ok (.ireturn, 1) := by decide +kernel
theorem dX5_revisions_0 : decode cX5_revisions 0 = .ok (.iload_n 1, 1) := by decide +kernel
theorem dX5_revisions_1 : decode cX5_revisions 1 = .ok (.invokestatic 45, 3) := by decide +kernel
theorem dX5_revisions_4 : decode cX5_revisions 4 = .ok (.ifCond .eq 15, 3) := by decide +kernel
theorem dX5_revisions_7 : decode cX5_revisions 7 = .ok (.aload_n 0, 1) := by decide +kernel
theorem dX5_revisions_8 : decode cX5_revisions 8 = .ok (.getfield 11, 3) := by decide +kernel
theorem dX5_revisions_11 : decode cX5_revisions 11 = .ok (.iload_n 1, 1) := by decide +kernel
theorem dX5_revisions_12 : decode cX5_revisions 12 = .ok (.aaload, 1) := by decide +kernel
theorem dX5_revisions_13 : decode cX5_revisions 13 = .ok (.getfield 153, 3) := by decide +kernel
theorem dX5_revisions_16 : decode cX5_revisions 16 = .ok (.goto 4, 3) := by decide +kernel
theorem dX5_revisions_19 : decode cX5_revisions 19 = .ok (.iconst (-1), 1) := by decide +kernel
theorem dX5_revisions_20 : decode cX5_revisions 20 = .ok (.ireturn, 1) := by decide +kernel
theorem dX5_number_0 : decode cX5_number 0 = .ok (.aload_n 0, 1) := by decide +kernel
theorem dX5_number_1 : decode cX5_number 1 = .ok (.iload_n 1, 1) := by decide +kernel
theorem dX5_number_2 : decode cX5_number 2 = .ok (.iload_n 2, 1) := by decide +kernel
theorem dX5_number_3 : decode cX5_number 3 = .ok (.invokevirtual 156, 3) := by decide +kernel
theorem dX5_number_6 : decode cX5_number 6 = .ok (.ifCond .eq 21, 3) := by decide +kernel
theorem dX5_number_9 : decode cX5_number 9 = .ok (.iload_n 3, 1) := by decide +kernel
theorem dX5_number_10 : decode cX5_number 10 = .ok (.ifCond .lt 17, 3) := by decide +kernel
theorem dX5_number_13 : decode cX5_number 13 = .ok (.aload_n 0, 1) := by decide +kernel
theorem dX5_number_14 : decode cX5_number 14 = .ok (.getfield 11, 3) := by decide +kernel
theorem dX5_number_17 : decode cX5_number 17 = .ok (.iload_n 1, 1) := by decide +kernel
theorem dX5_number_18 : decode cX5_number 18 = .ok (.aaload, 1) := by decide +kernel
theorem dX5_number_19 : decode cX5_number 19 = .ok (.iload_n 2, 1) := by decide +kernel
theorem dX5_number_20 : decode cX5_number 20 = .ok (.iload_n 3, 1) := by decide +kernel
theorem dX5_number_21 : decode cX5_number 21 = .ok (.invokevirtual 159, 3) := by decide +kernel
theorem dX5_number_24 : decode cX5_number 24 = .ok (.goto 4, 3) := by decide +kernel
theorem dX5_number_27 : decode cX5_number 27 = .ok (.iconst (-1), 1) := by decide +kernel
theorem dX5_number_28 : decode cX5_number 28 = .ok (.ireturn, 1) := by decide +kernel
theorem dX5_isRevision_0 : decode cX5_isRevision 0 = .ok (.iload_n 1, 1) := by decide +kernel
theorem dX5_isRevision_1 : decode cX5_isRevision 1 = .ok (.invokestatic 45, 3) := by decide +kernel
theorem dX5_isRevision_4 : decode cX5_isRevision 4 = .ok (.ifCond .eq 24, 3) := by decide +kernel
theorem dX5_isRevision_7 : decode cX5_isRevision 7 = .ok (.iload_n 2, 1) := by decide +kernel
theorem dX5_isRevision_8 : decode cX5_isRevision 8 = .ok (.ifCond .lt 20, 3) := by decide +kernel
theorem dX5_isRevision_11 : decode cX5_isRevision 11 = .ok (.iload_n 2, 1) := by decide +kernel
theorem dX5_isRevision_12 : decode cX5_isRevision 12 = .ok (.aload_n 0, 1) := by decide +kernel
theorem dX5_isRevision_13 : decode cX5_isRevision 13 = .ok (.getfield 11, 3) := by decide +kernel
theorem dX5_isRevision_16 : decode cX5_isRevision 16 = .ok (.iload_n 1, 1) := by decide +kernel
theorem dX5_isRevision_17 : decode cX5_isRevision 17 = .ok (.aaload, 1) := by decide +kernel
theorem dX5_isRevision_18 : decode cX5_isRevision 18 = .ok (.getfield 153, 3) := by decide +kernel
theorem dX5_isRevision_21 : decode cX5_isRevision 21 = .ok (.if_icmp .ge 7, 3) := by decide +kernel
theorem dX5_isRevision_24 : decode cX5_isRevision 24 = .ok (.iconst 1, 1) := by decide +kernel
theorem dX5_isRevision_25 : decode cX5_isRevision 25 = .ok (.goto 4, 3) := by decide +kernel
theorem dX5_isRevision_28 : decode cX5_isRevision 28 = .ok (.iconst 0, 1) := by decide +kernel
theorem dX5_isRevision_29 : decode cX5_isRevision 29 = .ok (.ireturn, 1) := by decide +kernel
theorem dX2_numberPart_0 : decode cX2_numberPart 0 = .ok (.aload_n 0, 1) := by decide +kernel
theorem dX2_numberPart_1 : decode cX2_numberPart 1 = .ok (.iload_n 1, 1) := by decide +kernel
theorem dX2_numberPart_2 : decode cX2_numberPart 2 = .ok (.invokevirtual 71, 3) := by decide +kernel
theorem dX2_numberPart_5 : decode cX2_numberPart 5 = .ok (.istore_n 3, 1) := by decide +kernel
theorem dX2_numberPart_6 : decode cX2_numberPart 6 = .ok (.iload_n 2, 1) := by decide +kernel
theorem dX2_numberPart_7 : decode cX2_numberPart 7 = .ok (.iconst 2, 1) := by decide +kernel
theorem dX2_numberPart_8 : decode cX2_numberPart 8 = .ok (.idiv, 1) := by decide +kernel
theorem dX2_numberPart_9 : decode cX2_numberPart 9 = .ok (.istore 4, 2) := by decide +kernel
theorem dX2_numberPart_11 : decode cX2_numberPart 11 = .ok (.iload 4, 2) := by decide +kernel
theorem dX2_numberPart_13 : decode cX2_numberPart 13 = .ok (.iload_n 3, 1) := by decide +kernel
theorem dX2_numberPart_14 : decode cX2_numberPart 14 = .ok (.if_icmp .le 5, 3) := by decide +kernel
theorem dX2_numberPart_17 : decode cX2_numberPart 17 = .ok (.iconst 0, 1) := by decide +kernel
theorem dX2_numberPart_18 : decode cX2_numberPart 18 = .ok (.ireturn, 1) := by decide +kernel
theorem dX2_numberPart_19 : decode cX2_numberPart 19 = .ok (.iload_n 1, 1) := by decide +kernel
theorem dX2_numberPart_20 : decode cX2_numberPart 20 = .ok (.istore 5, 2) := by decide +kernel
theorem dX2_numberPart_22 : decode cX2_numberPart 22 = .ok (.iload_n 3, 1) := by decide +kernel
theorem dX2_numberPart_23 : decode cX2_numberPart 23 = .ok (.istore 6, 2) := by decide +kernel
theorem dX2_numberPart_25 : decode cX2_numberPart 25 = .ok (.iload 6, 2) := by decide +kernel
theorem dX2_numberPart_27 : decode cX2_numberPart 27 = .ok (.iload 4, 2) := by decide +kernel
theorem dX2_numberPart_29 : decode cX2_numberPart 29 = .ok (.if_icmp .le 23, 3) := by decide +kernel
theorem dX2_numberPart_32 : decode cX2_numberPart 32 = .ok (.aload_n 0, 1) := by decide +kernel
theorem dX2_numberPart_33 : decode cX2_numberPart 33 = .ok (.getfield 33, 3) := by decide +kernel
theorem dX2_numberPart_36 : decode cX2_numberPart 36 = .ok (.aload_n 0, 1) := by decide +kernel
theorem dX2_numberPart_37 : decode cX2_numberPart 37 = .ok (.getfield 19, 3) := by decide +kernel
theorem dX2_numberPart_40 : decode cX2_numberPart 40 = .ok (.iload 5, 2) := by decide +kernel
theorem dX2_numberPart_42 : decode cX2_numberPart 42 = .ok (.iaload, 1) := by decide +kernel
theorem dX2_numberPart_43 : decode cX2_numberPart 43 = .ok (.iaload, 1) := by decide +kernel
theorem dX2_numberPart_44 : decode cX2_numberPart 44 = .ok (.istore 5, 2) := by decide +kernel
theorem dX2_numberPart_46 : decode cX2_numberPart 46 = .ok (.iinc 6 (-1), 3) := by decide +kernel
theorem dX2_numberPart_49 : decode cX2_numberPart 49 = .ok (.goto (-24), 3) := by decide +kernel
theorem dX2_numberPart_52 : decode cX2_numberPart 52 = .ok (.iload_n 2, 1) := by decide +kernel
theorem dX2_numberPart_53 : decode cX2_numberPart 53 = .ok (.iconst 2, 1) := by decide +kernel
theorem dX2_numberPart_54 : decode cX2_numberPart 54 = .ok (.irem, 1) := by decide +kernel
theorem dX2_numberPart_55 : decode cX2_numberPart 55 = .ok (.ifCond .ne 18, 3) := by decide +kernel
theorem dX2_numberPart_58 : decode cX2_numberPart 58 = .ok (.aload_n 0, 1) := by decide +kernel
theorem dX2_numberPart_59 : decode cX2_numberPart 59 = .ok (.getfield 36, 3) := by decide +kernel
theorem dX2_numberPart_62 : decode cX2_numberPart 62 = .ok (.aload_n 0, 1) := by decide +kernel
theorem dX2_numberPart_63 : decode cX2_numberPart 63 = .ok (.getfield 19, 3) := by decide +kernel
theorem dX2_numberPart_66 : decode cX2_numberPart 66 = .ok (.iload 5, 2) := by decide +kernel
theorem dX2_numberPart_68 : decode cX2_numberPart 68 = .ok (.iaload, 1) := by decide +kernel
theorem dX2_numberPart_69 : decode cX2_numberPart 69 = .ok (.iaload, 1) := by decide +kernel
theorem dX2_numberPart_70 : decode cX2_numberPart 70 = .ok (.goto 10, 3) := by decide +kernel
theorem dX2_numberPart_73 : decode cX2_numberPart 73 = .ok (.aload_n 0, 1) := by decide +kernel
theorem dX2_numberPart_74 : decode cX2_numberPart 74 = .ok (.getfield 23, 3) := by decide +kernel
theorem dX2_numberPart_77 : decode cX2_numberPart 77 = .ok (.iload 5, 2) := by decide +kernel
theorem dX2_numberPart_79 : decode cX2_numberPart 79 = .ok (.iaload, 1) := by decide +kernel
theorem dX2_numberPart_80 : decode cX2_numberPart 80 = .ok (.ireturn, 1) := by decide +kernel
theorem dX2_depth_0 : decode cX2_depth 0 = .ok (.iconst 0, 1) := by decide +kernel
theorem dX2_depth_1 : decode cX2_depth 1 = .ok (.istore_n 2, 1) := by decide +kernel
theorem dX2_depth_2 : decode cX2_depth 2 = .ok (.aload_n 0, 1) := by decide +kernel
theorem dX2_depth_3 : decode cX2_depth 3 = .ok (.getfield 19, 3) := by decide +kernel
theorem dX2_depth_6 : decode cX2_depth 6 = .ok (.iload_n 1, 1) := by decide +kernel
theorem dX2_depth_7 : decode cX2_depth 7 = .ok (.iaload, 1) := by decide +kernel
theorem dX2_depth_8 : decode cX2_depth 8 = .ok (.istore_n 3, 1) := by decide +kernel
theorem dX2_depth_9 : decode cX2_depth 9 = .ok (.iconst 1, 1) := by decide +kernel
theorem dX2_depth_10 : decode cX2_depth 10 = .ok (.istore 4, 2) := by decide +kernel
theorem dX2_depth_12 : decode cX2_depth 12 = .ok (.iload 4, 2) := by decide +kernel
theorem dX2_depth_14 : decode cX2_depth 14 = .ok (.bipush 6, 2) := by decide +kernel
theorem dX2_depth_16 : decode cX2_depth 16 = .ok (.if_icmp .ge 28, 3) := by decide +kernel
theorem dX2_depth_19 : decode cX2_depth 19 = .ok (.iload_n 3, 1) := by decide +kernel
theorem dX2_depth_20 : decode cX2_depth 20 = .ok (.ifCond .eq 24, 3) := by decide +kernel
theorem dX2_depth_23 : decode cX2_depth 23 = .ok (.aload_n 0, 1) := by decide +kernel
theorem dX2_depth_24 : decode cX2_depth 24 = .ok (.getfield 19, 3) := by decide +kernel
theorem dX2_depth_27 : decode cX2_depth 27 = .ok (.aload_n 0, 1) := by decide +kernel
theorem dX2_depth_28 : decode cX2_depth 28 = .ok (.getfield 33, 3) := by decide +kernel
theorem dX2_depth_31 : decode cX2_depth 31 = .ok (.iload_n 3, 1) := by decide +kernel
theorem dX2_depth_32 : decode cX2_depth 32 = .ok (.iaload, 1) := by decide +kernel
theorem dX2_depth_33 : decode cX2_depth 33 = .ok (.iaload, 1) := by decide +kernel
theorem dX2_depth_34 : decode cX2_depth 34 = .ok (.istore_n 3, 1) := by decide +kernel
theorem dX2_depth_35 : decode cX2_depth 35 = .ok (.iinc 2 1, 3) := by decide +kernel
theorem dX2_depth_38 : decode cX2_depth 38 = .ok (.iinc 4 1, 3) := by decide +kernel
theorem dX2_depth_41 : decode cX2_depth 41 = .ok (.goto (-29), 3) := by decide +kernel
theorem dX2_depth_44 : decode cX2_depth 44 = .ok (.iload_n 2, 1) := by decide +kernel
theorem dX2_depth_45 : decode cX2_depth 45 = .ok (.ireturn, 1) := by decide +kernel
theorem dX5_content_0 : decode cX5_content 0 = .ok (.aload_n 0, 1) := by decide +kernel
theorem dX5_content_1 : decode cX5_content 1 = .ok (.iload_n 1, 1) := by decide +kernel
theorem dX5_content_2 : decode cX5_content 2 = .ok (.iload_n 2, 1) := by decide +kernel
theorem dX5_content_3 : decode cX5_content 3 = .ok (.invokevirtual 156, 3) := by decide +kernel
theorem dX5_content_6 : decode cX5_content 6 = .ok (.ifCond .eq 17, 3) := by decide +kernel
theorem dX5_content_9 : decode cX5_content 9 = .ok (.aload_n 0, 1) := by decide +kernel
theorem dX5_content_10 : decode cX5_content 10 = .ok (.getfield 11, 3) := by decide +kernel
theorem dX5_content_13 : decode cX5_content 13 = .ok (.iload_n 1, 1) := by decide +kernel
theorem dX5_content_14 : decode cX5_content 14 = .ok (.aaload, 1) := by decide +kernel
theorem dX5_content_15 : decode cX5_content 15 = .ok (.getfield 163, 3) := by decide +kernel
theorem dX5_content_18 : decode cX5_content 18 = .ok (.iload_n 2, 1) := by decide +kernel
theorem dX5_content_19 : decode cX5_content 19 = .ok (.laload, 1) := by decide +kernel
theorem dX5_content_20 : decode cX5_content 20 = .ok (.goto 6, 3) := by decide +kernel
theorem dX5_content_23 : decode cX5_content 23 = .ok (.ldc2_w 151, 3) := by decide +kernel
theorem dX5_content_26 : decode cX5_content 26 = .ok (.lreturn, 1) := by decide +kernel
theorem dX5_dead_0 : decode cX5_dead 0 = .ok (.aload_n 0, 1) := by decide +kernel
theorem dX5_dead_1 : decode cX5_dead 1 = .ok (.iload_n 1, 1) := by decide +kernel
theorem dX5_dead_2 : decode cX5_dead 2 = .ok (.iload_n 2, 1) := by decide +kernel
theorem dX5_dead_3 : decode cX5_dead 3 = .ok (.invokevirtual 156, 3) := by decide +kernel
theorem dX5_dead_6 : decode cX5_dead 6 = .ok (.ifCond .eq 21, 3) := by decide +kernel
theorem dX5_dead_9 : decode cX5_dead 9 = .ok (.aload_n 0, 1) := by decide +kernel
theorem dX5_dead_10 : decode cX5_dead 10 = .ok (.getfield 11, 3) := by decide +kernel
theorem dX5_dead_13 : decode cX5_dead 13 = .ok (.iload_n 1, 1) := by decide +kernel
theorem dX5_dead_14 : decode cX5_dead 14 = .ok (.aaload, 1) := by decide +kernel
theorem dX5_dead_15 : decode cX5_dead 15 = .ok (.getfield 167, 3) := by decide +kernel
theorem dX5_dead_18 : decode cX5_dead 18 = .ok (.iload_n 2, 1) := by decide +kernel
theorem dX5_dead_19 : decode cX5_dead 19 = .ok (.baload, 1) := by decide +kernel
theorem dX5_dead_20 : decode cX5_dead 20 = .ok (.ifCond .eq 7, 3) := by decide +kernel
theorem dX5_dead_23 : decode cX5_dead 23 = .ok (.iconst 1, 1) := by decide +kernel
theorem dX5_dead_24 : decode cX5_dead 24 = .ok (.goto 4, 3) := by decide +kernel
theorem dX5_dead_27 : decode cX5_dead 27 = .ok (.iconst 0, 1) := by decide +kernel
theorem dX5_dead_28 : decode cX5_dead 28 = .ok (.ireturn, 1) := by decide +kernel
theorem dX5_kept_0 : decode cX5_kept 0 = .ok (.aload_n 0, 1) := by decide +kernel
theorem dX5_kept_1 : decode cX5_kept 1 = .ok (.iload_n 1, 1) := by decide +kernel
theorem dX5_kept_2 : decode cX5_kept 2 = .ok (.iload_n 2, 1) := by decide +kernel
theorem dX5_kept_3 : decode cX5_kept 3 = .ok (.invokevirtual 156, 3) := by decide +kernel
theorem dX5_kept_6 : decode cX5_kept 6 = .ok (.ifCond .ne 5, 3) := by decide +kernel
theorem dX5_kept_9 : decode cX5_kept 9 = .ok (.iconst (-1), 1) := by decide +kernel
theorem dX5_kept_10 : decode cX5_kept 10 = .ok (.ireturn, 1) := by decide +kernel
theorem dX5_kept_11 : decode cX5_kept 11 = .ok (.aload_n 0, 1) := by decide +kernel
theorem dX5_kept_12 : decode cX5_kept 12 = .ok (.getfield 11, 3) := by decide +kernel
theorem dX5_kept_15 : decode cX5_kept 15 = .ok (.iload_n 1, 1) := by decide +kernel
theorem dX5_kept_16 : decode cX5_kept 16 = .ok (.aaload, 1) := by decide +kernel
theorem dX5_kept_17 : decode cX5_kept 17 = .ok (.astore_n 3, 1) := by decide +kernel
theorem dX5_kept_18 : decode cX5_kept 18 = .ok (.aload_n 3, 1) := by decide +kernel
theorem dX5_kept_19 : decode cX5_kept 19 = .ok (.iload_n 2, 1) := by decide +kernel
theorem dX5_kept_20 : decode cX5_kept 20 = .ok (.invokevirtual 171, 3) := by decide +kernel
theorem dX5_kept_23 : decode cX5_kept 23 = .ok (.istore 4, 2) := by decide +kernel
theorem dX5_kept_25 : decode cX5_kept 25 = .ok (.iload 4, 2) := by decide +kernel
theorem dX5_kept_27 : decode cX5_kept 27 = .ok (.iconst (-1), 1) := by decide +kernel
theorem dX5_kept_28 : decode cX5_kept 28 = .ok (.if_icmp .ne 13, 3) := by decide +kernel
theorem dX5_kept_31 : decode cX5_kept 31 = .ok (.aload_n 3, 1) := by decide +kernel
theorem dX5_kept_32 : decode cX5_kept 32 = .ok (.getfield 163, 3) := by decide +kernel
theorem dX5_kept_35 : decode cX5_kept 35 = .ok (.iload_n 2, 1) := by decide +kernel
theorem dX5_kept_36 : decode cX5_kept 36 = .ok (.laload, 1) := by decide +kernel
theorem dX5_kept_37 : decode cX5_kept 37 = .ok (.invokestatic 174, 3) := by decide +kernel
theorem dX5_kept_40 : decode cX5_kept 40 = .ok (.ireturn, 1) := by decide +kernel
theorem dX5_kept_41 : decode cX5_kept 41 = .ok (.aload_n 0, 1) := by decide +kernel
theorem dX5_kept_42 : decode cX5_kept 42 = .ok (.getfield 30, 3) := by decide +kernel
theorem dX5_kept_45 : decode cX5_kept 45 = .ok (.aload_n 3, 1) := by decide +kernel
theorem dX5_kept_46 : decode cX5_kept 46 = .ok (.getfield 163, 3) := by decide +kernel
theorem dX5_kept_49 : decode cX5_kept 49 = .ok (.iload 4, 2) := by decide +kernel
theorem dX5_kept_51 : decode cX5_kept 51 = .ok (.laload, 1) := by decide +kernel
theorem dX5_kept_52 : decode cX5_kept 52 = .ok (.aload_n 3, 1) := by decide +kernel
theorem dX5_kept_53 : decode cX5_kept 53 = .ok (.getfield 163, 3) := by decide +kernel
theorem dX5_kept_56 : decode cX5_kept 56 = .ok (.iload_n 2, 1) := by decide +kernel
theorem dX5_kept_57 : decode cX5_kept 57 = .ok (.laload, 1) := by decide +kernel
theorem dX5_kept_58 : decode cX5_kept 58 = .ok (.invokevirtual 178, 3) := by decide +kernel
theorem dX5_kept_61 : decode cX5_kept 61 = .ok (.aload_n 0, 1) := by decide +kernel
theorem dX5_kept_62 : decode cX5_kept 62 = .ok (.getfield 30, 3) := by decide +kernel
theorem dX5_kept_65 : decode cX5_kept 65 = .ok (.invokevirtual 182, 3) := by decide +kernel
theorem dX5_kept_68 : decode cX5_kept 68 = .ok (.ireturn, 1) := by decide +kernel
theorem dX2_keptAgainst_0 : decode cX2_keptAgainst 0 = .ok (.aload_n 0, 1) := by decide +kernel
theorem dX2_keptAgainst_1 : decode cX2_keptAgainst 1 = .ok (.getfield 19, 3) := by decide +kernel
theorem dX2_keptAgainst_4 : decode cX2_keptAgainst 4 = .ok (.iload_n 1, 1) := by decide +kernel
theorem dX2_keptAgainst_5 : decode cX2_keptAgainst 5 = .ok (.iaload, 1) := by decide +kernel
theorem dX2_keptAgainst_6 : decode cX2_keptAgainst 6 = .ok (.ifCond .ne 11, 3) := by decide +kernel
theorem dX2_keptAgainst_9 : decode cX2_keptAgainst 9 = .ok (.aload_n 0, 1) := by decide +kernel
theorem dX2_keptAgainst_10 : decode cX2_keptAgainst 10 = .ok (.iload_n 1, 1) := by decide +kernel
theorem dX2_keptAgainst_11 : decode cX2_keptAgainst 11 = .ok (.invokevirtual 74, 3) := by decide +kernel
theorem dX2_keptAgainst_14 : decode cX2_keptAgainst 14 = .ok (.goto 9, 3) := by decide +kernel
theorem dX2_keptAgainst_17 : decode cX2_keptAgainst 17 = .ok (.aload_n 0, 1) := by decide +kernel
theorem dX2_keptAgainst_18 : decode cX2_keptAgainst 18 = .ok (.getfield 26, 3) := by decide +kernel
theorem dX2_keptAgainst_21 : decode cX2_keptAgainst 21 = .ok (.iload_n 1, 1) := by decide +kernel
theorem dX2_keptAgainst_22 : decode cX2_keptAgainst 22 = .ok (.iaload, 1) := by decide +kernel
theorem dX2_keptAgainst_23 : decode cX2_keptAgainst 23 = .ok (.ireturn, 1) := by decide +kernel
theorem dX2_nextOnTrunk_0 : decode cX2_nextOnTrunk 0 = .ok (.iload_n 1, 1) := by decide +kernel
theorem dX2_nextOnTrunk_1 : decode cX2_nextOnTrunk 1 = .ok (.iconst 1, 1) := by decide +kernel
theorem dX2_nextOnTrunk_2 : decode cX2_nextOnTrunk 2 = .ok (.iadd, 1) := by decide +kernel
theorem dX2_nextOnTrunk_3 : decode cX2_nextOnTrunk 3 = .ok (.istore_n 2, 1) := by decide +kernel
theorem dX2_nextOnTrunk_4 : decode cX2_nextOnTrunk 4 = .ok (.iload_n 2, 1) := by decide +kernel
theorem dX2_nextOnTrunk_5 : decode cX2_nextOnTrunk 5 = .ok (.aload_n 0, 1) := by decide +kernel
theorem dX2_nextOnTrunk_6 : decode cX2_nextOnTrunk 6 = .ok (.getfield 29, 3) := by decide +kernel
theorem dX2_nextOnTrunk_9 : decode cX2_nextOnTrunk 9 = .ok (.if_icmp .ge 20, 3) := by decide +kernel
theorem dX2_nextOnTrunk_12 : decode cX2_nextOnTrunk 12 = .ok (.aload_n 0, 1) := by decide +kernel
theorem dX2_nextOnTrunk_13 : decode cX2_nextOnTrunk 13 = .ok (.getfield 19, 3) := by decide +kernel
theorem dX2_nextOnTrunk_16 : decode cX2_nextOnTrunk 16 = .ok (.iload_n 2, 1) := by decide +kernel
theorem dX2_nextOnTrunk_17 : decode cX2_nextOnTrunk 17 = .ok (.iaload, 1) := by decide +kernel
theorem dX2_nextOnTrunk_18 : decode cX2_nextOnTrunk 18 = .ok (.ifCond .ne 5, 3) := by decide +kernel
theorem dX2_nextOnTrunk_21 : decode cX2_nextOnTrunk 21 = .ok (.iload_n 2, 1) := by decide +kernel
theorem dX2_nextOnTrunk_22 : decode cX2_nextOnTrunk 22 = .ok (.ireturn, 1) := by decide +kernel
theorem dX2_nextOnTrunk_23 : decode cX2_nextOnTrunk 23 = .ok (.iinc 2 1, 3) := by decide +kernel
theorem dX2_nextOnTrunk_26 : decode cX2_nextOnTrunk 26 = .ok (.goto (-22), 3) := by decide +kernel
theorem dX2_nextOnTrunk_29 : decode cX2_nextOnTrunk 29 = .ok (.iconst (-1), 1) := by decide +kernel
theorem dX2_nextOnTrunk_30 : decode cX2_nextOnTrunk 30 = .ok (.ireturn, 1) := by decide +kernel
theorem dX1_size_0 : decode cX1_size 0 = .ok (.aload_n 0, 1) := by decide +kernel
theorem dX1_size_1 : decode cX1_size 1 = .ok (.getfield 18, 3) := by decide +kernel
theorem dX1_size_4 : decode cX1_size 4 = .ok (.aload_n 0, 1) := by decide +kernel
theorem dX1_size_5 : decode cX1_size 5 = .ok (.getfield 22, 3) := by decide +kernel
theorem dX1_size_8 : decode cX1_size 8 = .ok (.iadd, 1) := by decide +kernel
theorem dX1_size_9 : decode cX1_size 9 = .ok (.iconst 2, 1) := by decide +kernel
theorem dX1_size_10 : decode cX1_size 10 = .ok (.aload_n 0, 1) := by decide +kernel
theorem dX1_size_11 : decode cX1_size 11 = .ok (.getfield 33, 3) := by decide +kernel
theorem dX1_size_14 : decode cX1_size 14 = .ok (.imul, 1) := by decide +kernel
theorem dX1_size_15 : decode cX1_size 15 = .ok (.isub, 1) := by decide +kernel
theorem dX1_size_16 : decode cX1_size 16 = .ok (.ireturn, 1) := by decide +kernel
theorem dX5_named_0 : decode cX5_named 0 = .ok (.iload_n 1, 1) := by decide +kernel
theorem dX5_named_1 : decode cX5_named 1 = .ok (.invokestatic 45, 3) := by decide +kernel
theorem dX5_named_4 : decode cX5_named 4 = .ok (.ifCond .eq 24, 3) := by decide +kernel
theorem dX5_named_7 : decode cX5_named 7 = .ok (.iload_n 2, 1) := by decide +kernel
theorem dX5_named_8 : decode cX5_named 8 = .ok (.invokestatic 118, 3) := by decide +kernel
theorem dX5_named_11 : decode cX5_named 11 = .ok (.ifCond .eq 17, 3) := by decide +kernel
theorem dX5_named_14 : decode cX5_named 14 = .ok (.aload_n 0, 1) := by decide +kernel
theorem dX5_named_15 : decode cX5_named 15 = .ok (.getfield 11, 3) := by decide +kernel
theorem dX5_named_18 : decode cX5_named 18 = .ok (.iload_n 1, 1) := by decide +kernel
theorem dX5_named_19 : decode cX5_named 19 = .ok (.aaload, 1) := by decide +kernel
theorem dX5_named_20 : decode cX5_named 20 = .ok (.getfield 121, 3) := by decide +kernel
theorem dX5_named_23 : decode cX5_named 23 = .ok (.iload_n 2, 1) := by decide +kernel
theorem dX5_named_24 : decode cX5_named 24 = .ok (.iaload, 1) := by decide +kernel
theorem dX5_named_25 : decode cX5_named 25 = .ok (.goto 4, 3) := by decide +kernel
theorem dX5_named_28 : decode cX5_named 28 = .ok (.iconst (-1), 1) := by decide +kernel
theorem dX5_named_29 : decode cX5_named 29 = .ok (.ireturn, 1) := by decide +kernel
theorem dX5_standard_0 : decode cX5_standard 0 = .ok (.iload_n 1, 1) := by decide +kernel
theorem dX5_standard_1 : decode cX5_standard 1 = .ok (.invokestatic 45, 3) := by decide +kernel
theorem dX5_standard_4 : decode cX5_standard 4 = .ok (.ifCond .eq 27, 3) := by decide +kernel
theorem dX5_standard_7 : decode cX5_standard 7 = .ok (.aload_n 0, 1) := by decide +kernel
theorem dX5_standard_8 : decode cX5_standard 8 = .ok (.getfield 11, 3) := by decide +kernel
theorem dX5_standard_11 : decode cX5_standard 11 = .ok (.iload_n 1, 1) := by decide +kernel
theorem dX5_standard_12 : decode cX5_standard 12 = .ok (.aaload, 1) := by decide +kernel
theorem dX5_standard_13 : decode cX5_standard 13 = .ok (.invokevirtual 135, 3) := by decide +kernel
theorem dX5_standard_16 : decode cX5_standard 16 = .ok (.ifCond .eq 15, 3) := by decide +kernel
theorem dX5_standard_19 : decode cX5_standard 19 = .ok (.aload_n 0, 1) := by decide +kernel
theorem dX5_standard_20 : decode cX5_standard 20 = .ok (.getfield 11, 3) := by decide +kernel
theorem dX5_standard_23 : decode cX5_standard 23 = .ok (.iload_n 1, 1) := by decide +kernel
theorem dX5_standard_24 : decode cX5_standard 24 = .ok (.aaload, 1) := by decide +kernel
theorem dX5_standard_25 : decode cX5_standard 25 = .ok (.getfield 148, 3) := by decide +kernel
theorem dX5_standard_28 : decode cX5_standard 28 = .ok (.goto 4, 3) := by decide +kernel
theorem dX5_standard_31 : decode cX5_standard 31 = .ok (.iconst (-1), 1) := by decide +kernel
theorem dX5_standard_32 : decode cX5_standard 32 = .ok (.ireturn, 1) := by decide +kernel
theorem dX6_init_0 : decode cX6_init 0 = .ok (.aload_n 0, 1) := by decide +kernel
theorem dX6_init_1 : decode cX6_init 1 = .ok (.invokespecial 1, 3) := by decide +kernel
theorem dX6_init_4 : decode cX6_init 4 = .ok (.aload_n 0, 1) := by decide +kernel
theorem dX6_init_5 : decode cX6_init 5 = .ok (.iconst 4, 1) := by decide +kernel
theorem dX6_init_6 : decode cX6_init 6 = .ok (.newarray .int, 2) := by decide +kernel
theorem dX6_init_8 : decode cX6_init 8 = .ok (.putfield 7, 3) := by decide +kernel
theorem dX6_init_11 : decode cX6_init 11 = .ok (.aload_n 0, 1) := by decide +kernel
theorem dX6_init_12 : decode cX6_init 12 = .ok (.bipush 96, 2) := by decide +kernel
theorem dX6_init_14 : decode cX6_init 14 = .ok (.newarray .long, 2) := by decide +kernel
theorem dX6_init_16 : decode cX6_init 16 = .ok (.putfield 13, 3) := by decide +kernel
theorem dX6_init_19 : decode cX6_init 19 = .ok (.aload_n 0, 1) := by decide +kernel
theorem dX6_init_20 : decode cX6_init 20 = .ok (.bipush 96, 2) := by decide +kernel
theorem dX6_init_22 : decode cX6_init 22 = .ok (.newarray .boolean, 2) := by decide +kernel
theorem dX6_init_24 : decode cX6_init 24 = .ok (.putfield 17, 3) := by decide +kernel
theorem dX6_init_27 : decode cX6_init 27 = .ok (.aload_n 0, 1) := by decide +kernel
theorem dX6_init_28 : decode cX6_init 28 = .ok (.bipush 96, 2) := by decide +kernel
theorem dX6_init_30 : decode cX6_init 30 = .ok (.newarray .int, 2) := by decide +kernel
theorem dX6_init_32 : decode cX6_init 32 = .ok (.putfield 21, 3) := by decide +kernel
theorem dX6_init_35 : decode cX6_init 35 = .ok (.aload_n 0, 1) := by decide +kernel
theorem dX6_init_36 : decode cX6_init 36 = .ok (.bipush 96, 2) := by decide +kernel
theorem dX6_init_38 : decode cX6_init 38 = .ok (.newarray .int, 2) := by decide +kernel
theorem dX6_init_40 : decode cX6_init 40 = .ok (.putfield 24, 3) := by decide +kernel
theorem dX6_init_43 : decode cX6_init 43 = .ok (.aload_n 0, 1) := by decide +kernel
theorem dX6_init_44 : decode cX6_init 44 = .ok (.iconst 4, 1) := by decide +kernel
theorem dX6_init_45 : decode cX6_init 45 = .ok (.newarray .int, 2) := by decide +kernel
theorem dX6_init_47 : decode cX6_init 47 = .ok (.putfield 27, 3) := by decide +kernel
theorem dX6_init_50 : decode cX6_init 50 = .ok (.aload_n 0, 1) := by decide +kernel
theorem dX6_init_51 : decode cX6_init 51 = .ok (.bipush 24, 2) := by decide +kernel
theorem dX6_init_53 : decode cX6_init 53 = .ok (.newarray .int, 2) := by decide +kernel
theorem dX6_init_55 : decode cX6_init 55 = .ok (.putfield 30, 3) := by decide +kernel
theorem dX6_init_58 : decode cX6_init 58 = .ok (.aload_n 0, 1) := by decide +kernel
theorem dX6_init_59 : decode cX6_init 59 = .ok (.bipush 24, 2) := by decide +kernel
theorem dX6_init_61 : decode cX6_init 61 = .ok (.newarray .int, 2) := by decide +kernel
theorem dX6_init_63 : decode cX6_init 63 = .ok (.putfield 33, 3) := by decide +kernel
theorem dX6_init_66 : decode cX6_init 66 = .ok (.aload_n 0, 1) := by decide +kernel
theorem dX6_init_67 : decode cX6_init 67 = .ok (.iconst 4, 1) := by decide +kernel
theorem dX6_init_68 : decode cX6_init 68 = .ok (.newarray .int, 2) := by decide +kernel
theorem dX6_init_70 : decode cX6_init 70 = .ok (.putfield 36, 3) := by decide +kernel
theorem dX6_init_73 : decode cX6_init 73 = .ok (.aload_n 0, 1) := by decide +kernel
theorem dX6_init_74 : decode cX6_init 74 = .ok (.iconst 4, 1) := by decide +kernel
theorem dX6_init_75 : decode cX6_init 75 = .ok (.newarray .int, 2) := by decide +kernel
theorem dX6_init_77 : decode cX6_init 77 = .ok (.putfield 39, 3) := by decide +kernel
theorem dX6_init_80 : decode cX6_init 80 = .ok (.aload_n 0, 1) := by decide +kernel
theorem dX6_init_81 : decode cX6_init 81 = .ok (.iconst 5, 1) := by decide +kernel
theorem dX6_init_82 : decode cX6_init 82 = .ok (.newarray .int, 2) := by decide +kernel
theorem dX6_init_84 : decode cX6_init 84 = .ok (.putfield 42, 3) := by decide +kernel
theorem dX6_init_87 : decode cX6_init 87 = .ok (.aload_n 0, 1) := by decide +kernel
theorem dX6_init_88 : decode cX6_init 88 = .ok (.bipush 20, 2) := by decide +kernel
theorem dX6_init_90 : decode cX6_init 90 = .ok (.newarray .int, 2) := by decide +kernel
theorem dX6_init_92 : decode cX6_init 92 = .ok (.putfield 45, 3) := by decide +kernel
theorem dX6_init_95 : decode cX6_init 95 = .ok (.aload_n 0, 1) := by decide +kernel
theorem dX6_init_96 : decode cX6_init 96 = .ok (.bipush 12, 2) := by decide +kernel
theorem dX6_init_98 : decode cX6_init 98 = .ok (.newarray .int, 2) := by decide +kernel
theorem dX6_init_100 : decode cX6_init 100 = .ok (.putfield 48, 3) := by decide +kernel
theorem dX6_init_103 : decode cX6_init 103 = .ok (.aload_n 0, 1) := by decide +kernel
theorem dX6_init_104 : decode cX6_init 104 = .ok (.bipush 12, 2) := by decide +kernel
theorem dX6_init_106 : decode cX6_init 106 = .ok (.newarray .boolean, 2) := by decide +kernel
theorem dX6_init_108 : decode cX6_init 108 = .ok (.putfield 51, 3) := by decide +kernel
theorem dX6_init_111 : decode cX6_init 111 = .ok (.aload_n 0, 1) := by decide +kernel
theorem dX6_init_112 : decode cX6_init 112 = .ok (.bipush 12, 2) := by decide +kernel
theorem dX6_init_114 : decode cX6_init 114 = .ok (.newarray .long, 2) := by decide +kernel
theorem dX6_init_116 : decode cX6_init 116 = .ok (.putfield 54, 3) := by decide +kernel
theorem dX6_init_119 : decode cX6_init 119 = .ok (.aload_n 0, 1) := by decide +kernel
theorem dX6_init_120 : decode cX6_init 120 = .ok (.bipush 12, 2) := by decide +kernel
theorem dX6_init_122 : decode cX6_init 122 = .ok (.newarray .int, 2) := by decide +kernel
theorem dX6_init_124 : decode cX6_init 124 = .ok (.putfield 57, 3) := by decide +kernel
theorem dX6_init_127 : decode cX6_init 127 = .ok (.aload_n 0, 1) := by decide +kernel
theorem dX6_init_128 : decode cX6_init 128 = .ok (.sipush 169, 3) := by decide +kernel
theorem dX6_init_131 : decode cX6_init 131 = .ok (.newarray .int, 2) := by decide +kernel
theorem dX6_init_133 : decode cX6_init 133 = .ok (.putfield 60, 3) := by decide +kernel
theorem dX6_init_136 : decode cX6_init 136 = .ok (.aload_n 0, 1) := by decide +kernel
theorem dX6_init_137 : decode cX6_init 137 = .ok (.bipush 13, 2) := by decide +kernel
theorem dX6_init_139 : decode cX6_init 139 = .ok (.newarray .int, 2) := by decide +kernel
theorem dX6_init_141 : decode cX6_init 141 = .ok (.putfield 63, 3) := by decide +kernel
theorem dX6_init_144 : decode cX6_init 144 = .ok (.aload_n 0, 1) := by decide +kernel
theorem dX6_init_145 : decode cX6_init 145 = .ok (.bipush 13, 2) := by decide +kernel
theorem dX6_init_147 : decode cX6_init 147 = .ok (.newarray .int, 2) := by decide +kernel
theorem dX6_init_149 : decode cX6_init 149 = .ok (.putfield 66, 3) := by decide +kernel
theorem dX6_init_152 : decode cX6_init 152 = .ok (.aload_n 0, 1) := by decide +kernel
theorem dX6_init_153 : decode cX6_init 153 = .ok (.bipush 64, 2) := by decide +kernel
theorem dX6_init_155 : decode cX6_init 155 = .ok (.newarray .int, 2) := by decide +kernel
theorem dX6_init_157 : decode cX6_init 157 = .ok (.putfield 69, 3) := by decide +kernel
theorem dX6_init_160 : decode cX6_init 160 = .ok (.iconst 0, 1) := by decide +kernel
theorem dX6_init_161 : decode cX6_init 161 = .ok (.istore_n 1, 1) := by decide +kernel
theorem dX6_init_162 : decode cX6_init 162 = .ok (.iload_n 1, 1) := by decide +kernel
theorem dX6_init_163 : decode cX6_init 163 = .ok (.bipush 20, 2) := by decide +kernel
theorem dX6_init_165 : decode cX6_init 165 = .ok (.if_icmp .ge 16, 3) := by decide +kernel
theorem dX6_init_168 : decode cX6_init 168 = .ok (.aload_n 0, 1) := by decide +kernel
theorem dX6_init_169 : decode cX6_init 169 = .ok (.getfield 45, 3) := by decide +kernel
theorem dX6_init_172 : decode cX6_init 172 = .ok (.iload_n 1, 1) := by decide +kernel
theorem dX6_init_173 : decode cX6_init 173 = .ok (.iconst (-1), 1) := by decide +kernel
theorem dX6_init_174 : decode cX6_init 174 = .ok (.iastore, 1) := by decide +kernel
theorem dX6_init_175 : decode cX6_init 175 = .ok (.iinc 1 1, 3) := by decide +kernel
theorem dX6_init_178 : decode cX6_init 178 = .ok (.goto (-16), 3) := by decide +kernel
theorem dX6_init_181 : decode cX6_init 181 = .ok (.iconst 0, 1) := by decide +kernel
theorem dX6_init_182 : decode cX6_init 182 = .ok (.istore_n 1, 1) := by decide +kernel
theorem dX6_init_183 : decode cX6_init 183 = .ok (.iload_n 1, 1) := by decide +kernel
theorem dX6_init_184 : decode cX6_init 184 = .ok (.iconst 4, 1) := by decide +kernel
theorem dX6_init_185 : decode cX6_init 185 = .ok (.if_icmp .ge 16, 3) := by decide +kernel
theorem dX6_init_188 : decode cX6_init 188 = .ok (.aload_n 0, 1) := by decide +kernel
theorem dX6_init_189 : decode cX6_init 189 = .ok (.getfield 36, 3) := by decide +kernel
theorem dX6_init_192 : decode cX6_init 192 = .ok (.iload_n 1, 1) := by decide +kernel
theorem dX6_init_193 : decode cX6_init 193 = .ok (.iconst (-1), 1) := by decide +kernel
theorem dX6_init_194 : decode cX6_init 194 = .ok (.iastore, 1) := by decide +kernel
theorem dX6_init_195 : decode cX6_init 195 = .ok (.iinc 1 1, 3) := by decide +kernel
theorem dX6_init_198 : decode cX6_init 198 = .ok (.goto (-15), 3) := by decide +kernel
theorem dX6_init_201 : decode cX6_init 201 = .ok (.iconst 0, 1) := by decide +kernel
theorem dX6_init_202 : decode cX6_init 202 = .ok (.istore_n 1, 1) := by decide +kernel
theorem dX6_init_203 : decode cX6_init 203 = .ok (.iload_n 1, 1) := by decide +kernel
theorem dX6_init_204 : decode cX6_init 204 = .ok (.bipush 12, 2) := by decide +kernel
theorem dX6_init_206 : decode cX6_init 206 = .ok (.if_icmp .ge 23, 3) := by decide +kernel
theorem dX6_init_209 : decode cX6_init 209 = .ok (.aload_n 0, 1) := by decide +kernel
theorem dX6_init_210 : decode cX6_init 210 = .ok (.getfield 48, 3) := by decide +kernel
theorem dX6_init_213 : decode cX6_init 213 = .ok (.iload_n 1, 1) := by decide +kernel
theorem dX6_init_214 : decode cX6_init 214 = .ok (.iconst (-1), 1) := by decide +kernel
theorem dX6_init_215 : decode cX6_init 215 = .ok (.iastore, 1) := by decide +kernel
theorem dX6_init_216 : decode cX6_init 216 = .ok (.aload_n 0, 1) := by decide +kernel
theorem dX6_init_217 : decode cX6_init 217 = .ok (.getfield 57, 3) := by decide +kernel
theorem dX6_init_220 : decode cX6_init 220 = .ok (.iload_n 1, 1) := by decide +kernel
theorem dX6_init_221 : decode cX6_init 221 = .ok (.iconst (-1), 1) := by decide +kernel
theorem dX6_init_222 : decode cX6_init 222 = .ok (.iastore, 1) := by decide +kernel
theorem dX6_init_223 : decode cX6_init 223 = .ok (.iinc 1 1, 3) := by decide +kernel
theorem dX6_init_226 : decode cX6_init 226 = .ok (.goto (-23), 3) := by decide +kernel
theorem dX6_init_229 : decode cX6_init 229 = .ok (.return_, 1) := by decide +kernel
theorem dX6_add_0 : decode cX6_add 0 = .ok (.iload_n 1, 1) := by decide +kernel
theorem dX6_add_1 : decode cX6_add 1 = .ok (.iload_n 2, 1) := by decide +kernel
theorem dX6_add_2 : decode cX6_add 2 = .ok (.invokestatic 120, 3) := by decide +kernel
theorem dX6_add_5 : decode cX6_add 5 = .ok (.ifCond .ne 31, 3) := by decide +kernel
theorem dX6_add_8 : decode cX6_add 8 = .ok (.aload_n 0, 1) := by decide +kernel
theorem dX6_add_9 : decode cX6_add 9 = .ok (.getfield 48, 3) := by decide +kernel
theorem dX6_add_12 : decode cX6_add 12 = .ok (.iconst 4, 1) := by decide +kernel
theorem dX6_add_13 : decode cX6_add 13 = .ok (.iload_n 1, 1) := by decide +kernel
theorem dX6_add_14 : decode cX6_add 14 = .ok (.imul, 1) := by decide +kernel
theorem dX6_add_15 : decode cX6_add 15 = .ok (.iload_n 2, 1) := by decide +kernel
theorem dX6_add_16 : decode cX6_add 16 = .ok (.iadd, 1) := by decide +kernel
theorem dX6_add_17 : decode cX6_add 17 = .ok (.iaload, 1) := by decide +kernel
theorem dX6_add_18 : decode cX6_add 18 = .ok (.iconst (-1), 1) := by decide +kernel
theorem dX6_add_19 : decode cX6_add 19 = .ok (.if_icmp .ne 17, 3) := by decide +kernel
theorem dX6_add_22 : decode cX6_add 22 = .ok (.lload_n 3, 1) := by decide +kernel
theorem dX6_add_23 : decode cX6_add 23 = .ok (.invokestatic 123, 3) := by decide +kernel
theorem dX6_add_26 : decode cX6_add 26 = .ok (.ifCond .ne 10, 3) := by decide +kernel
theorem dX6_add_29 : decode cX6_add 29 = .ok (.lload_n 3, 1) := by decide +kernel
theorem dX6_add_30 : decode cX6_add 30 = .ok (.invokestatic 127, 3) := by decide +kernel
theorem dX6_add_33 : decode cX6_add 33 = .ok (.ifCond .eq 5, 3) := by decide +kernel
theorem dX6_add_36 : decode cX6_add 36 = .ok (.iconst 0, 1) := by decide +kernel
theorem dX6_add_37 : decode cX6_add 37 = .ok (.ireturn, 1) := by decide +kernel
theorem dX6_add_38 : decode cX6_add 38 = .ok (.aload_n 0, 1) := by decide +kernel
theorem dX6_add_39 : decode cX6_add 39 = .ok (.getfield 48, 3) := by decide +kernel
theorem dX6_add_42 : decode cX6_add 42 = .ok (.iconst 4, 1) := by decide +kernel
theorem dX6_add_43 : decode cX6_add 43 = .ok (.iload_n 1, 1) := by decide +kernel
theorem dX6_add_44 : decode cX6_add 44 = .ok (.imul, 1) := by decide +kernel
theorem dX6_add_45 : decode cX6_add 45 = .ok (.iload_n 2, 1) := by decide +kernel
theorem dX6_add_46 : decode cX6_add 46 = .ok (.iadd, 1) := by decide +kernel
theorem dX6_add_47 : decode cX6_add 47 = .ok (.bipush (-2), 2) := by decide +kernel
theorem dX6_add_49 : decode cX6_add 49 = .ok (.iastore, 1) := by decide +kernel
theorem dX6_add_50 : decode cX6_add 50 = .ok (.aload_n 0, 1) := by decide +kernel
theorem dX6_add_51 : decode cX6_add 51 = .ok (.getfield 51, 3) := by decide +kernel
theorem dX6_add_54 : decode cX6_add 54 = .ok (.iconst 4, 1) := by decide +kernel
theorem dX6_add_55 : decode cX6_add 55 = .ok (.iload_n 1, 1) := by decide +kernel
theorem dX6_add_56 : decode cX6_add 56 = .ok (.imul, 1) := by decide +kernel
theorem dX6_add_57 : decode cX6_add 57 = .ok (.iload_n 2, 1) := by decide +kernel
theorem dX6_add_58 : decode cX6_add 58 = .ok (.iadd, 1) := by decide +kernel
theorem dX6_add_59 : decode cX6_add 59 = .ok (.iconst 0, 1) := by decide +kernel
theorem dX6_add_60 : decode cX6_add 60 = .ok (.bastore, 1) := by decide +kernel
theorem dX6_add_61 : decode cX6_add 61 = .ok (.aload_n 0, 1) := by decide +kernel
theorem dX6_add_62 : decode cX6_add 62 = .ok (.getfield 54, 3) := by decide +kernel
theorem dX6_add_65 : decode cX6_add 65 = .ok (.iconst 4, 1) := by decide +kernel
theorem dX6_add_66 : decode cX6_add 66 = .ok (.iload_n 1, 1) := by decide +kernel
theorem dX6_add_67 : decode cX6_add 67 = .ok (.imul, 1) := by decide +kernel
theorem dX6_add_68 : decode cX6_add 68 = .ok (.iload_n 2, 1) := by decide +kernel
theorem dX6_add_69 : decode cX6_add 69 = .ok (.iadd, 1) := by decide +kernel
theorem dX6_add_70 : decode cX6_add 70 = .ok (.lload_n 3, 1) := by decide +kernel
theorem dX6_add_71 : decode cX6_add 71 = .ok (.lastore, 1) := by decide +kernel
theorem dX6_add_72 : decode cX6_add 72 = .ok (.iconst 1, 1) := by decide +kernel
theorem dX6_add_73 : decode cX6_add 73 = .ok (.ireturn, 1) := by decide +kernel
theorem dX6_noPair_0 : decode cX6_noPair 0 = .ok (.iload_n 0, 1) := by decide +kernel
theorem dX6_noPair_1 : decode cX6_noPair 1 = .ok (.iconst 3, 1) := by decide +kernel
theorem dX6_noPair_2 : decode cX6_noPair 2 = .ok (.invokestatic 72, 3) := by decide +kernel
theorem dX6_noPair_5 : decode cX6_noPair 5 = .ok (.ifCond .eq 11, 3) := by decide +kernel
theorem dX6_noPair_8 : decode cX6_noPair 8 = .ok (.iload_n 1, 1) := by decide +kernel
theorem dX6_noPair_9 : decode cX6_noPair 9 = .ok (.iconst 4, 1) := by decide +kernel
theorem dX6_noPair_10 : decode cX6_noPair 10 = .ok (.invokestatic 72, 3) := by decide +kernel
theorem dX6_noPair_13 : decode cX6_noPair 13 = .ok (.ifCond .ne 7, 3) := by decide +kernel
theorem dX6_noPair_16 : decode cX6_noPair 16 = .ok (.iconst 1, 1) := by decide +kernel
theorem dX6_noPair_17 : decode cX6_noPair 17 = .ok (.goto 4, 3) := by decide +kernel
theorem dX6_noPair_20 : decode cX6_noPair 20 = .ok (.iconst 0, 1) := by decide +kernel
theorem dX6_noPair_21 : decode cX6_noPair 21 = .ok (.ireturn, 1) := by decide +kernel
theorem dX6_below_0 : decode cX6_below 0 = .ok (.iload_n 0, 1) := by decide +kernel
theorem dX6_below_1 : decode cX6_below 1 = .ok (.ifCond .lt 12, 3) := by decide +kernel
theorem dX6_below_4 : decode cX6_below 4 = .ok (.iload_n 0, 1) := by decide +kernel
theorem dX6_below_5 : decode cX6_below 5 = .ok (.iload_n 1, 1) := by decide +kernel
theorem dX6_below_6 : decode cX6_below 6 = .ok (.if_icmp .ge 7, 3) := by decide +kernel
theorem dX6_below_9 : decode cX6_below 9 = .ok (.iconst 1, 1) := by decide +kernel
theorem dX6_below_10 : decode cX6_below 10 = .ok (.goto 4, 3) := by decide +kernel
theorem dX6_below_13 : decode cX6_below 13 = .ok (.iconst 0, 1) := by decide +kernel
theorem dX6_below_14 : decode cX6_below 14 = .ok (.ireturn, 1) := by decide +kernel
theorem dX6_noText_0 : decode cX6_noText 0 = .ok (.lload_n 0, 1) := by decide +kernel
theorem dX6_noText_1 : decode cX6_noText 1 = .ok (.lconst 0, 1) := by decide +kernel
theorem dX6_noText_2 : decode cX6_noText 2 = .ok (.lcmp, 1) := by decide +kernel
theorem dX6_noText_3 : decode cX6_noText 3 = .ok (.ifCond .lt 12, 3) := by decide +kernel
theorem dX6_noText_6 : decode cX6_noText 6 = .ok (.lload_n 0, 1) := by decide +kernel
theorem dX6_noText_7 : decode cX6_noText 7 = .ok (.invokestatic 78, 3) := by decide +kernel
theorem dX6_noText_10 : decode cX6_noText 10 = .ok (.bipush 12, 2) := by decide +kernel
theorem dX6_noText_12 : decode cX6_noText 12 = .ok (.if_icmp .le 5, 3) := by decide +kernel
theorem dX6_noText_15 : decode cX6_noText 15 = .ok (.iconst 1, 1) := by decide +kernel
theorem dX6_noText_16 : decode cX6_noText 16 = .ok (.ireturn, 1) := by decide +kernel
theorem dX6_noText_17 : decode cX6_noText 17 = .ok (.iconst 0, 1) := by decide +kernel
theorem dX6_noText_18 : decode cX6_noText 18 = .ok (.istore_n 2, 1) := by decide +kernel
theorem dX6_noText_19 : decode cX6_noText 19 = .ok (.iconst 0, 1) := by decide +kernel
theorem dX6_noText_20 : decode cX6_noText 20 = .ok (.istore_n 3, 1) := by decide +kernel
theorem dX6_noText_21 : decode cX6_noText 21 = .ok (.iload_n 3, 1) := by decide +kernel
theorem dX6_noText_22 : decode cX6_noText 22 = .ok (.lload_n 0, 1) := by decide +kernel
theorem dX6_noText_23 : decode cX6_noText 23 = .ok (.invokestatic 78, 3) := by decide +kernel
theorem dX6_noText_26 : decode cX6_noText 26 = .ok (.if_icmp .ge 38, 3) := by decide +kernel
theorem dX6_noText_29 : decode cX6_noText 29 = .ok (.iload_n 2, 1) := by decide +kernel
theorem dX6_noText_30 : decode cX6_noText 30 = .ok (.ifCond .ne 22, 3) := by decide +kernel
theorem dX6_noText_33 : decode cX6_noText 33 = .ok (.lload_n 0, 1) := by decide +kernel
theorem dX6_noText_34 : decode cX6_noText 34 = .ok (.iload_n 3, 1) := by decide +kernel
theorem dX6_noText_35 : decode cX6_noText 35 = .ok (.invokestatic 84, 3) := by decide +kernel
theorem dX6_noText_38 : decode cX6_noText 38 = .ok (.iconst 1, 1) := by decide +kernel
theorem dX6_noText_39 : decode cX6_noText 39 = .ok (.if_icmp .lt 13, 3) := by decide +kernel
theorem dX6_noText_42 : decode cX6_noText 42 = .ok (.lload_n 0, 1) := by decide +kernel
theorem dX6_noText_43 : decode cX6_noText 43 = .ok (.iload_n 3, 1) := by decide +kernel
theorem dX6_noText_44 : decode cX6_noText 44 = .ok (.invokestatic 84, 3) := by decide +kernel
theorem dX6_noText_47 : decode cX6_noText 47 = .ok (.bipush 19, 2) := by decide +kernel
theorem dX6_noText_49 : decode cX6_noText 49 = .ok (.if_icmp .le 7, 3) := by decide +kernel
theorem dX6_noText_52 : decode cX6_noText 52 = .ok (.iconst 1, 1) := by decide +kernel
theorem dX6_noText_53 : decode cX6_noText 53 = .ok (.goto 4, 3) := by decide +kernel
theorem dX6_noText_56 : decode cX6_noText 56 = .ok (.iconst 0, 1) := by decide +kernel
theorem dX6_noText_57 : decode cX6_noText 57 = .ok (.istore_n 2, 1) := by decide +kernel
theorem dX6_noText_58 : decode cX6_noText 58 = .ok (.iinc 3 1, 3) := by decide +kernel
theorem dX6_noText_61 : decode cX6_noText 61 = .ok (.goto (-40), 3) := by decide +kernel
theorem dX6_noText_64 : decode cX6_noText 64 = .ok (.iload_n 2, 1) := by decide +kernel
theorem dX6_noText_65 : decode cX6_noText 65 = .ok (.ireturn, 1) := by decide +kernel
theorem dX6_size_0 : decode cX6_size 0 = .ok (.iconst 0, 1) := by decide +kernel
theorem dX6_size_1 : decode cX6_size 1 = .ok (.istore_n 2, 1) := by decide +kernel
theorem dX6_size_2 : decode cX6_size 2 = .ok (.lload_n 0, 1) := by decide +kernel
theorem dX6_size_3 : decode cX6_size 3 = .ok (.lstore_n 3, 1) := by decide +kernel
theorem dX6_size_4 : decode cX6_size 4 = .ok (.lload_n 3, 1) := by decide +kernel
theorem dX6_size_5 : decode cX6_size 5 = .ok (.lconst 0, 1) := by decide +kernel
theorem dX6_size_6 : decode cX6_size 6 = .ok (.lcmp, 1) := by decide +kernel
theorem dX6_size_7 : decode cX6_size 7 = .ok (.ifCond .le 15, 3) := by decide +kernel
theorem dX6_size_10 : decode cX6_size 10 = .ok (.iinc 2 1, 3) := by decide +kernel
theorem dX6_size_13 : decode cX6_size 13 = .ok (.lload_n 3, 1) := by decide +kernel
theorem dX6_size_14 : decode cX6_size 14 = .ok (.ldc2_w 76, 3) := by decide +kernel
theorem dX6_size_17 : decode cX6_size 17 = .ok (.ldiv, 1) := by decide +kernel
theorem dX6_size_18 : decode cX6_size 18 = .ok (.lstore_n 3, 1) := by decide +kernel
theorem dX6_size_19 : decode cX6_size 19 = .ok (.goto (-15), 3) := by decide +kernel
theorem dX6_size_22 : decode cX6_size 22 = .ok (.iload_n 2, 1) := by decide +kernel
theorem dX6_size_23 : decode cX6_size 23 = .ok (.ireturn, 1) := by decide +kernel
theorem dX6_lineOf_0 : decode cX6_lineOf 0 = .ok (.lload_n 0, 1) := by decide +kernel
theorem dX6_lineOf_1 : decode cX6_lineOf 1 = .ok (.iconst 5, 1) := by decide +kernel
theorem dX6_lineOf_2 : decode cX6_lineOf 2 = .ok (.lload_n 0, 1) := by decide +kernel
theorem dX6_lineOf_3 : decode cX6_lineOf 3 = .ok (.invokestatic 78, 3) := by decide +kernel
theorem dX6_lineOf_6 : decode cX6_lineOf 6 = .ok (.iconst 1, 1) := by decide +kernel
theorem dX6_lineOf_7 : decode cX6_lineOf 7 = .ok (.isub, 1) := by decide +kernel
theorem dX6_lineOf_8 : decode cX6_lineOf 8 = .ok (.iload_n 2, 1) := by decide +kernel
theorem dX6_lineOf_9 : decode cX6_lineOf 9 = .ok (.isub, 1) := by decide +kernel
theorem dX6_lineOf_10 : decode cX6_lineOf 10 = .ok (.imul, 1) := by decide +kernel
theorem dX6_lineOf_11 : decode cX6_lineOf 11 = .ok (.lshr, 1) := by decide +kernel
theorem dX6_lineOf_12 : decode cX6_lineOf 12 = .ok (.ldc2_w 82, 3) := by decide +kernel
theorem dX6_lineOf_15 : decode cX6_lineOf 15 = .ok (.land, 1) := by decide +kernel
theorem dX6_lineOf_16 : decode cX6_lineOf 16 = .ok (.l2i, 1) := by decide +kernel
theorem dX6_lineOf_17 : decode cX6_lineOf 17 = .ok (.ireturn, 1) := by decide +kernel
theorem dX6_hasMarks_0 : decode cX6_hasMarks 0 = .ok (.iconst 0, 1) := by decide +kernel
theorem dX6_hasMarks_1 : decode cX6_hasMarks 1 = .ok (.istore_n 2, 1) := by decide +kernel
theorem dX6_hasMarks_2 : decode cX6_hasMarks 2 = .ok (.iconst 0, 1) := by decide +kernel
theorem dX6_hasMarks_3 : decode cX6_hasMarks 3 = .ok (.istore_n 3, 1) := by decide +kernel
theorem dX6_hasMarks_4 : decode cX6_hasMarks 4 = .ok (.iload_n 3, 1) := by decide +kernel
theorem dX6_hasMarks_5 : decode cX6_hasMarks 5 = .ok (.lload_n 0, 1) := by decide +kernel
theorem dX6_hasMarks_6 : decode cX6_hasMarks 6 = .ok (.invokestatic 78, 3) := by decide +kernel
theorem dX6_hasMarks_9 : decode cX6_hasMarks 9 = .ok (.if_icmp .ge 29, 3) := by decide +kernel
theorem dX6_hasMarks_12 : decode cX6_hasMarks 12 = .ok (.iload_n 2, 1) := by decide +kernel
theorem dX6_hasMarks_13 : decode cX6_hasMarks 13 = .ok (.ifCond .ne 13, 3) := by decide +kernel
theorem dX6_hasMarks_16 : decode cX6_hasMarks 16 = .ok (.lload_n 0, 1) := by decide +kernel
theorem dX6_hasMarks_17 : decode cX6_hasMarks 17 = .ok (.iload_n 3, 1) := by decide +kernel
theorem dX6_hasMarks_18 : decode cX6_hasMarks 18 = .ok (.invokestatic 84, 3) := by decide +kernel
theorem dX6_hasMarks_21 : decode cX6_hasMarks 21 = .ok (.bipush 16, 2) := by decide +kernel
theorem dX6_hasMarks_23 : decode cX6_hasMarks 23 = .ok (.if_icmp .le 7, 3) := by decide +kernel
theorem dX6_hasMarks_26 : decode cX6_hasMarks 26 = .ok (.iconst 1, 1) := by decide +kernel
theorem dX6_hasMarks_27 : decode cX6_hasMarks 27 = .ok (.goto 4, 3) := by decide +kernel
theorem dX6_hasMarks_30 : decode cX6_hasMarks 30 = .ok (.iconst 0, 1) := by decide +kernel
theorem dX6_hasMarks_31 : decode cX6_hasMarks 31 = .ok (.istore_n 2, 1) := by decide +kernel
theorem dX6_hasMarks_32 : decode cX6_hasMarks 32 = .ok (.iinc 3 1, 3) := by decide +kernel
theorem dX6_hasMarks_35 : decode cX6_hasMarks 35 = .ok (.goto (-31), 3) := by decide +kernel
theorem dX6_hasMarks_38 : decode cX6_hasMarks 38 = .ok (.iload_n 2, 1) := by decide +kernel
theorem dX6_hasMarks_39 : decode cX6_hasMarks 39 = .ok (.ireturn, 1) := by decide +kernel
theorem dX6_edit_0 : decode cX6_edit 0 = .ok (.iload_n 1, 1) := by decide +kernel
theorem dX6_edit_1 : decode cX6_edit 1 = .ok (.iload_n 2, 1) := by decide +kernel
theorem dX6_edit_2 : decode cX6_edit 2 = .ok (.invokestatic 120, 3) := by decide +kernel
theorem dX6_edit_5 : decode cX6_edit 5 = .ok (.ifCond .ne 22, 3) := by decide +kernel
theorem dX6_edit_8 : decode cX6_edit 8 = .ok (.aload_n 0, 1) := by decide +kernel
theorem dX6_edit_9 : decode cX6_edit 9 = .ok (.iconst 4, 1) := by decide +kernel
theorem dX6_edit_10 : decode cX6_edit 10 = .ok (.iload_n 1, 1) := by decide +kernel
theorem dX6_edit_11 : decode cX6_edit 11 = .ok (.imul, 1) := by decide +kernel
theorem dX6_edit_12 : decode cX6_edit 12 = .ok (.iload_n 2, 1) := by decide +kernel
theorem dX6_edit_13 : decode cX6_edit 13 = .ok (.iadd, 1) := by decide +kernel
theorem dX6_edit_14 : decode cX6_edit 14 = .ok (.invokevirtual 130, 3) := by decide +kernel
theorem dX6_edit_17 : decode cX6_edit 17 = .ok (.ifCond .eq 10, 3) := by decide +kernel
theorem dX6_edit_20 : decode cX6_edit 20 = .ok (.lload_n 3, 1) := by decide +kernel
theorem dX6_edit_21 : decode cX6_edit 21 = .ok (.invokestatic 123, 3) := by decide +kernel
theorem dX6_edit_24 : decode cX6_edit 24 = .ok (.ifCond .eq 5, 3) := by decide +kernel
theorem dX6_edit_27 : decode cX6_edit 27 = .ok (.iconst 0, 1) := by decide +kernel
theorem dX6_edit_28 : decode cX6_edit 28 = .ok (.ireturn, 1) := by decide +kernel
theorem dX6_edit_29 : decode cX6_edit 29 = .ok (.aload_n 0, 1) := by decide +kernel
theorem dX6_edit_30 : decode cX6_edit 30 = .ok (.getfield 54, 3) := by decide +kernel
theorem dX6_edit_33 : decode cX6_edit 33 = .ok (.iconst 4, 1) := by decide +kernel
theorem dX6_edit_34 : decode cX6_edit 34 = .ok (.iload_n 1, 1) := by decide +kernel
theorem dX6_edit_35 : decode cX6_edit 35 = .ok (.imul, 1) := by decide +kernel
theorem dX6_edit_36 : decode cX6_edit 36 = .ok (.iload_n 2, 1) := by decide +kernel
theorem dX6_edit_37 : decode cX6_edit 37 = .ok (.iadd, 1) := by decide +kernel
theorem dX6_edit_38 : decode cX6_edit 38 = .ok (.lload_n 3, 1) := by decide +kernel
theorem dX6_edit_39 : decode cX6_edit 39 = .ok (.lastore, 1) := by decide +kernel
theorem dX6_edit_40 : decode cX6_edit 40 = .ok (.iconst 1, 1) := by decide +kernel
theorem dX6_edit_41 : decode cX6_edit 41 = .ok (.ireturn, 1) := by decide +kernel
theorem dX6_hasLocal_0 : decode cX6_hasLocal 0 = .ok (.aload_n 0, 1) := by decide +kernel
theorem dX6_hasLocal_1 : decode cX6_hasLocal 1 = .ok (.getfield 48, 3) := by decide +kernel
theorem dX6_hasLocal_4 : decode cX6_hasLocal 4 = .ok (.iload_n 1, 1) := by decide +kernel
theorem dX6_hasLocal_5 : decode cX6_hasLocal 5 = .ok (.iaload, 1) := by decide +kernel
theorem dX6_hasLocal_6 : decode cX6_hasLocal 6 = .ok (.iconst (-1), 1) := by decide +kernel
theorem dX6_hasLocal_7 : decode cX6_hasLocal 7 = .ok (.if_icmp .eq 16, 3) := by decide +kernel
theorem dX6_hasLocal_10 : decode cX6_hasLocal 10 = .ok (.aload_n 0, 1) := by decide +kernel
theorem dX6_hasLocal_11 : decode cX6_hasLocal 11 = .ok (.getfield 51, 3) := by decide +kernel
theorem dX6_hasLocal_14 : decode cX6_hasLocal 14 = .ok (.iload_n 1, 1) := by decide +kernel
theorem dX6_hasLocal_15 : decode cX6_hasLocal 15 = .ok (.baload, 1) := by decide +kernel
theorem dX6_hasLocal_16 : decode cX6_hasLocal 16 = .ok (.ifCond .ne 7, 3) := by decide +kernel
theorem dX6_hasLocal_19 : decode cX6_hasLocal 19 = .ok (.iconst 1, 1) := by decide +kernel
theorem dX6_hasLocal_20 : decode cX6_hasLocal 20 = .ok (.goto 4, 3) := by decide +kernel
theorem dX6_hasLocal_23 : decode cX6_hasLocal 23 = .ok (.iconst 0, 1) := by decide +kernel
theorem dX6_hasLocal_24 : decode cX6_hasLocal 24 = .ok (.ireturn, 1) := by decide +kernel
theorem dX6_remove_0 : decode cX6_remove 0 = .ok (.iconst 4, 1) := by decide +kernel
theorem dX6_remove_1 : decode cX6_remove 1 = .ok (.iload_n 1, 1) := by decide +kernel
theorem dX6_remove_2 : decode cX6_remove 2 = .ok (.imul, 1) := by decide +kernel
theorem dX6_remove_3 : decode cX6_remove 3 = .ok (.iload_n 2, 1) := by decide +kernel
theorem dX6_remove_4 : decode cX6_remove 4 = .ok (.iadd, 1) := by decide +kernel
theorem dX6_remove_5 : decode cX6_remove 5 = .ok (.istore_n 3, 1) := by decide +kernel
theorem dX6_remove_6 : decode cX6_remove 6 = .ok (.iload_n 1, 1) := by decide +kernel
theorem dX6_remove_7 : decode cX6_remove 7 = .ok (.iload_n 2, 1) := by decide +kernel
theorem dX6_remove_8 : decode cX6_remove 8 = .ok (.invokestatic 120, 3) := by decide +kernel
theorem dX6_remove_11 : decode cX6_remove 11 = .ok (.ifCond .ne 11, 3) := by decide +kernel
theorem dX6_remove_14 : decode cX6_remove 14 = .ok (.aload_n 0, 1) := by decide +kernel
theorem dX6_remove_15 : decode cX6_remove 15 = .ok (.iload_n 3, 1) := by decide +kernel
theorem dX6_remove_16 : decode cX6_remove 16 = .ok (.invokevirtual 130, 3) := by decide +kernel
theorem dX6_remove_19 : decode cX6_remove 19 = .ok (.ifCond .ne 5, 3) := by decide +kernel
theorem dX6_remove_22 : decode cX6_remove 22 = .ok (.iconst 0, 1) := by decide +kernel
theorem dX6_remove_23 : decode cX6_remove 23 = .ok (.ireturn, 1) := by decide +kernel
theorem dX6_remove_24 : decode cX6_remove 24 = .ok (.aload_n 0, 1) := by decide +kernel
theorem dX6_remove_25 : decode cX6_remove 25 = .ok (.getfield 48, 3) := by decide +kernel
theorem dX6_remove_28 : decode cX6_remove 28 = .ok (.iload_n 3, 1) := by decide +kernel
theorem dX6_remove_29 : decode cX6_remove 29 = .ok (.iaload, 1) := by decide +kernel
theorem dX6_remove_30 : decode cX6_remove 30 = .ok (.bipush (-2), 2) := by decide +kernel
theorem dX6_remove_32 : decode cX6_remove 32 = .ok (.if_icmp .ne 13, 3) := by decide +kernel
theorem dX6_remove_35 : decode cX6_remove 35 = .ok (.aload_n 0, 1) := by decide +kernel
theorem dX6_remove_36 : decode cX6_remove 36 = .ok (.getfield 48, 3) := by decide +kernel
theorem dX6_remove_39 : decode cX6_remove 39 = .ok (.iload_n 3, 1) := by decide +kernel
theorem dX6_remove_40 : decode cX6_remove 40 = .ok (.iconst (-1), 1) := by decide +kernel
theorem dX6_remove_41 : decode cX6_remove 41 = .ok (.iastore, 1) := by decide +kernel
theorem dX6_remove_42 : decode cX6_remove 42 = .ok (.goto 10, 3) := by decide +kernel
theorem dX6_remove_45 : decode cX6_remove 45 = .ok (.aload_n 0, 1) := by decide +kernel
theorem dX6_remove_46 : decode cX6_remove 46 = .ok (.getfield 51, 3) := by decide +kernel
theorem dX6_remove_49 : decode cX6_remove 49 = .ok (.iload_n 3, 1) := by decide +kernel
theorem dX6_remove_50 : decode cX6_remove 50 = .ok (.iconst 1, 1) := by decide +kernel
theorem dX6_remove_51 : decode cX6_remove 51 = .ok (.bastore, 1) := by decide +kernel
theorem dX6_remove_52 : decode cX6_remove 52 = .ok (.iconst 1, 1) := by decide +kernel
theorem dX6_remove_53 : decode cX6_remove 53 = .ok (.ireturn, 1) := by decide +kernel
theorem dX6_commit_0 : decode cX6_commit 0 = .ok (.iload_n 1, 1) := by decide +kernel
theorem dX6_commit_1 : decode cX6_commit 1 = .ok (.iload_n 2, 1) := by decide +kernel
theorem dX6_commit_2 : decode cX6_commit 2 = .ok (.invokestatic 120, 3) := by decide +kernel
theorem dX6_commit_5 : decode cX6_commit 5 = .ok (.ifCond .ne 17, 3) := by decide +kernel
theorem dX6_commit_8 : decode cX6_commit 8 = .ok (.aload_n 0, 1) := by decide +kernel
theorem dX6_commit_9 : decode cX6_commit 9 = .ok (.getfield 48, 3) := by decide +kernel
theorem dX6_commit_12 : decode cX6_commit 12 = .ok (.iconst 4, 1) := by decide +kernel
theorem dX6_commit_13 : decode cX6_commit 13 = .ok (.iload_n 1, 1) := by decide +kernel
theorem dX6_commit_14 : decode cX6_commit 14 = .ok (.imul, 1) := by decide +kernel
theorem dX6_commit_15 : decode cX6_commit 15 = .ok (.iload_n 2, 1) := by decide +kernel
theorem dX6_commit_16 : decode cX6_commit 16 = .ok (.iadd, 1) := by decide +kernel
theorem dX6_commit_17 : decode cX6_commit 17 = .ok (.iaload, 1) := by decide +kernel
theorem dX6_commit_18 : decode cX6_commit 18 = .ok (.iconst (-1), 1) := by decide +kernel
theorem dX6_commit_19 : decode cX6_commit 19 = .ok (.if_icmp .ne 5, 3) := by decide +kernel
theorem dX6_commit_22 : decode cX6_commit 22 = .ok (.iconst (-1), 1) := by decide +kernel
theorem dX6_commit_23 : decode cX6_commit 23 = .ok (.ireturn, 1) := by decide +kernel
theorem dX6_commit_24 : decode cX6_commit 24 = .ok (.iconst 4, 1) := by decide +kernel
theorem dX6_commit_25 : decode cX6_commit 25 = .ok (.iload_n 1, 1) := by decide +kernel
theorem dX6_commit_26 : decode cX6_commit 26 = .ok (.imul, 1) := by decide +kernel
theorem dX6_commit_27 : decode cX6_commit 27 = .ok (.iload_n 2, 1) := by decide +kernel
theorem dX6_commit_28 : decode cX6_commit 28 = .ok (.iadd, 1) := by decide +kernel
theorem dX6_commit_29 : decode cX6_commit 29 = .ok (.istore_n 3, 1) := by decide +kernel
theorem dX6_commit_30 : decode cX6_commit 30 = .ok (.aload_n 0, 1) := by decide +kernel
theorem dX6_commit_31 : decode cX6_commit 31 = .ok (.iload_n 2, 1) := by decide +kernel
theorem dX6_commit_32 : decode cX6_commit 32 = .ok (.iload_n 3, 1) := by decide +kernel
theorem dX6_commit_33 : decode cX6_commit 33 = .ok (.invokevirtual 143, 3) := by decide +kernel
theorem dX6_commit_36 : decode cX6_commit 36 = .ok (.istore 4, 2) := by decide +kernel
theorem dX6_commit_38 : decode cX6_commit 38 = .ok (.iload 4, 2) := by decide +kernel
theorem dX6_commit_40 : decode cX6_commit 40 = .ok (.ifCond .ge 6, 3) := by decide +kernel
theorem dX6_commit_43 : decode cX6_commit 43 = .ok (.iload 4, 2) := by decide +kernel
theorem dX6_commit_45 : decode cX6_commit 45 = .ok (.ireturn, 1) := by decide +kernel
theorem dX6_commit_46 : decode cX6_commit 46 = .ok (.aload_n 0, 1) := by decide +kernel
theorem dX6_commit_47 : decode cX6_commit 47 = .ok (.getfield 57, 3) := by decide +kernel
theorem dX6_commit_50 : decode cX6_commit 50 = .ok (.iload_n 3, 1) := by decide +kernel
theorem dX6_commit_51 : decode cX6_commit 51 = .ok (.iaload, 1) := by decide +kernel
theorem dX6_commit_52 : decode cX6_commit 52 = .ok (.istore 5, 2) := by decide +kernel
theorem dX6_commit_54 : decode cX6_commit 54 = .ok (.aload_n 0, 1) := by decide +kernel
theorem dX6_commit_55 : decode cX6_commit 55 = .ok (.getfield 7, 3) := by decide +kernel
theorem dX6_commit_58 : decode cX6_commit 58 = .ok (.iload_n 2, 1) := by decide +kernel
theorem dX6_commit_59 : decode cX6_commit 59 = .ok (.iaload, 1) := by decide +kernel
theorem dX6_commit_60 : decode cX6_commit 60 = .ok (.ifCond .ne 24, 3) := by decide +kernel
theorem dX6_commit_63 : decode cX6_commit 63 = .ok (.aload_n 0, 1) := by decide +kernel
theorem dX6_commit_64 : decode cX6_commit 64 = .ok (.getfield 39, 3) := by decide +kernel
theorem dX6_commit_67 : decode cX6_commit 67 = .ok (.iload_n 2, 1) := by decide +kernel
theorem dX6_commit_68 : decode cX6_commit 68 = .ok (.iconst 0, 1) := by decide +kernel
theorem dX6_commit_69 : decode cX6_commit 69 = .ok (.iastore, 1) := by decide +kernel
theorem dX6_commit_70 : decode cX6_commit 70 = .ok (.iload 5, 2) := by decide +kernel
theorem dX6_commit_72 : decode cX6_commit 72 = .ok (.ifCond .lt 12, 3) := by decide +kernel
theorem dX6_commit_75 : decode cX6_commit 75 = .ok (.aload_n 0, 1) := by decide +kernel
theorem dX6_commit_76 : decode cX6_commit 76 = .ok (.iload_n 2, 1) := by decide +kernel
theorem dX6_commit_77 : decode cX6_commit 77 = .ok (.iconst 0, 1) := by decide +kernel
theorem dX6_commit_78 : decode cX6_commit 78 = .ok (.lconst 0, 1) := by decide +kernel
theorem dX6_commit_79 : decode cX6_commit 79 = .ok (.iconst 1, 1) := by decide +kernel
theorem dX6_commit_80 : decode cX6_commit 80 = .ok (.invokevirtual 146, 3) := by decide +kernel
theorem dX6_commit_83 : decode cX6_commit 83 = .ok (.pop, 1) := by decide +kernel
theorem dX6_commit_84 : decode cX6_commit 84 = .ok (.iload 5, 2) := by decide +kernel
theorem dX6_commit_86 : decode cX6_commit 86 = .ok (.ifCond .lt 51, 3) := by decide +kernel
theorem dX6_commit_89 : decode cX6_commit 89 = .ok (.aload_n 0, 1) := by decide +kernel
theorem dX6_commit_90 : decode cX6_commit 90 = .ok (.getfield 45, 3) := by decide +kernel
theorem dX6_commit_93 : decode cX6_commit 93 = .ok (.iconst 5, 1) := by decide +kernel
theorem dX6_commit_94 : decode cX6_commit 94 = .ok (.iload_n 2, 1) := by decide +kernel
theorem dX6_commit_95 : decode cX6_commit 95 = .ok (.imul, 1) := by decide +kernel
theorem dX6_commit_96 : decode cX6_commit 96 = .ok (.iload 5, 2) := by decide +kernel
theorem dX6_commit_98 : decode cX6_commit 98 = .ok (.iadd, 1) := by decide +kernel
theorem dX6_commit_99 : decode cX6_commit 99 = .ok (.iaload, 1) := by decide +kernel
theorem dX6_commit_100 : decode cX6_commit 100 = .ok (.iconst (-1), 1) := by decide +kernel
theorem dX6_commit_101 : decode cX6_commit 101 = .ok (.if_icmp .ne 36, 3) := by decide +kernel
theorem dX6_commit_104 : decode cX6_commit 104 = .ok (.aload_n 0, 1) := by decide +kernel
theorem dX6_commit_105 : decode cX6_commit 105 = .ok (.iload_n 2, 1) := by decide +kernel
theorem dX6_commit_106 : decode cX6_commit 106 = .ok (.iconst 0, 1) := by decide +kernel
theorem dX6_commit_107 : decode cX6_commit 107 = .ok (.invokevirtual 116, 3) := by decide +kernel
theorem dX6_commit_110 : decode cX6_commit 110 = .ok (.istore 6, 2) := by decide +kernel
theorem dX6_commit_112 : decode cX6_commit 112 = .ok (.aload_n 0, 1) := by decide +kernel
theorem dX6_commit_113 : decode cX6_commit 113 = .ok (.getfield 45, 3) := by decide +kernel
theorem dX6_commit_116 : decode cX6_commit 116 = .ok (.iconst 5, 1) := by decide +kernel
theorem dX6_commit_117 : decode cX6_commit 117 = .ok (.iload_n 2, 1) := by decide +kernel
theorem dX6_commit_118 : decode cX6_commit 118 = .ok (.imul, 1) := by decide +kernel
theorem dX6_commit_119 : decode cX6_commit 119 = .ok (.iload 5, 2) := by decide +kernel
theorem dX6_commit_121 : decode cX6_commit 121 = .ok (.iadd, 1) := by decide +kernel
theorem dX6_commit_122 : decode cX6_commit 122 = .ok (.aload_n 0, 1) := by decide +kernel
theorem dX6_commit_123 : decode cX6_commit 123 = .ok (.iload_n 2, 1) := by decide +kernel
theorem dX6_commit_124 : decode cX6_commit 124 = .ok (.iload 6, 2) := by decide +kernel
theorem dX6_commit_126 : decode cX6_commit 126 = .ok (.aload_n 0, 1) := by decide +kernel
theorem dX6_commit_127 : decode cX6_commit 127 = .ok (.iload_n 2, 1) := by decide +kernel
theorem dX6_commit_128 : decode cX6_commit 128 = .ok (.iload 6, 2) := by decide +kernel
theorem dX6_commit_130 : decode cX6_commit 130 = .ok (.invokevirtual 150, 3) := by decide +kernel
theorem dX6_commit_133 : decode cX6_commit 133 = .ok (.invokevirtual 153, 3) := by decide +kernel
theorem dX6_commit_136 : decode cX6_commit 136 = .ok (.iastore, 1) := by decide +kernel
theorem dX6_commit_137 : decode cX6_commit 137 = .ok (.iload 5, 2) := by decide +kernel
theorem dX6_commit_139 : decode cX6_commit 139 = .ok (.ifCond .ge 10, 3) := by decide +kernel
theorem dX6_commit_142 : decode cX6_commit 142 = .ok (.aload_n 0, 1) := by decide +kernel
theorem dX6_commit_143 : decode cX6_commit 143 = .ok (.getfield 39, 3) := by decide +kernel
theorem dX6_commit_146 : decode cX6_commit 146 = .ok (.iload_n 2, 1) := by decide +kernel
theorem dX6_commit_147 : decode cX6_commit 147 = .ok (.iconst 0, 1) := by decide +kernel
theorem dX6_commit_148 : decode cX6_commit 148 = .ok (.iastore, 1) := by decide +kernel
theorem dX6_commit_149 : decode cX6_commit 149 = .ok (.aload_n 0, 1) := by decide +kernel
theorem dX6_commit_150 : decode cX6_commit 150 = .ok (.getfield 51, 3) := by decide +kernel
theorem dX6_commit_153 : decode cX6_commit 153 = .ok (.iload_n 3, 1) := by decide +kernel
theorem dX6_commit_154 : decode cX6_commit 154 = .ok (.baload, 1) := by decide +kernel
theorem dX6_commit_155 : decode cX6_commit 155 = .ok (.ifCond .eq 22, 3) := by decide +kernel
theorem dX6_commit_158 : decode cX6_commit 158 = .ok (.aload_n 0, 1) := by decide +kernel
theorem dX6_commit_159 : decode cX6_commit 159 = .ok (.getfield 13, 3) := by decide +kernel
theorem dX6_commit_162 : decode cX6_commit 162 = .ok (.bipush 24, 2) := by decide +kernel
theorem dX6_commit_164 : decode cX6_commit 164 = .ok (.iload_n 2, 1) := by decide +kernel
theorem dX6_commit_165 : decode cX6_commit 165 = .ok (.imul, 1) := by decide +kernel
theorem dX6_commit_166 : decode cX6_commit 166 = .ok (.aload_n 0, 1) := by decide +kernel
theorem dX6_commit_167 : decode cX6_commit 167 = .ok (.getfield 48, 3) := by decide +kernel
theorem dX6_commit_170 : decode cX6_commit 170 = .ok (.iload_n 3, 1) := by decide +kernel
theorem dX6_commit_171 : decode cX6_commit 171 = .ok (.iaload, 1) := by decide +kernel
theorem dX6_commit_172 : decode cX6_commit 172 = .ok (.iadd, 1) := by decide +kernel
theorem dX6_commit_173 : decode cX6_commit 173 = .ok (.laload, 1) := by decide +kernel
theorem dX6_commit_174 : decode cX6_commit 174 = .ok (.goto 9, 3) := by decide +kernel
theorem dX6_commit_177 : decode cX6_commit 177 = .ok (.aload_n 0, 1) := by decide +kernel
theorem dX6_commit_178 : decode cX6_commit 178 = .ok (.getfield 54, 3) := by decide +kernel
theorem dX6_commit_181 : decode cX6_commit 181 = .ok (.iload_n 3, 1) := by decide +kernel
theorem dX6_commit_182 : decode cX6_commit 182 = .ok (.laload, 1) := by decide +kernel
theorem dX6_commit_183 : decode cX6_commit 183 = .ok (.lstore 6, 2) := by decide +kernel
theorem dX6_commit_185 : decode cX6_commit 185 = .ok (.aload_n 0, 1) := by decide +kernel
theorem dX6_commit_186 : decode cX6_commit 186 = .ok (.iload_n 2, 1) := by decide +kernel
theorem dX6_commit_187 : decode cX6_commit 187 = .ok (.iload 5, 2) := by decide +kernel
theorem dX6_commit_189 : decode cX6_commit 189 = .ok (.ifCond .ge 7, 3) := by decide +kernel
theorem dX6_commit_192 : decode cX6_commit 192 = .ok (.iconst 0, 1) := by decide +kernel
theorem dX6_commit_193 : decode cX6_commit 193 = .ok (.goto 14, 3) := by decide +kernel
theorem dX6_commit_196 : decode cX6_commit 196 = .ok (.aload_n 0, 1) := by decide +kernel
theorem dX6_commit_197 : decode cX6_commit 197 = .ok (.getfield 45, 3) := by decide +kernel
theorem dX6_commit_200 : decode cX6_commit 200 = .ok (.iconst 5, 1) := by decide +kernel
theorem dX6_commit_201 : decode cX6_commit 201 = .ok (.iload_n 2, 1) := by decide +kernel
theorem dX6_commit_202 : decode cX6_commit 202 = .ok (.imul, 1) := by decide +kernel
theorem dX6_commit_203 : decode cX6_commit 203 = .ok (.iload 5, 2) := by decide +kernel
theorem dX6_commit_205 : decode cX6_commit 205 = .ok (.iadd, 1) := by decide +kernel
theorem dX6_commit_206 : decode cX6_commit 206 = .ok (.iaload, 1) := by decide +kernel
theorem dX6_commit_207 : decode cX6_commit 207 = .ok (.lload 6, 2) := by decide +kernel
theorem dX6_commit_209 : decode cX6_commit 209 = .ok (.aload_n 0, 1) := by decide +kernel
theorem dX6_commit_210 : decode cX6_commit 210 = .ok (.getfield 51, 3) := by decide +kernel
theorem dX6_commit_213 : decode cX6_commit 213 = .ok (.iload_n 3, 1) := by decide +kernel
theorem dX6_commit_214 : decode cX6_commit 214 = .ok (.baload, 1) := by decide +kernel
theorem dX6_commit_215 : decode cX6_commit 215 = .ok (.invokevirtual 146, 3) := by decide +kernel
theorem dX6_commit_218 : decode cX6_commit 218 = .ok (.istore 8, 2) := by decide +kernel
theorem dX6_commit_220 : decode cX6_commit 220 = .ok (.aload_n 0, 1) := by decide +kernel
theorem dX6_commit_221 : decode cX6_commit 221 = .ok (.getfield 48, 3) := by decide +kernel
theorem dX6_commit_224 : decode cX6_commit 224 = .ok (.iload_n 3, 1) := by decide +kernel
theorem dX6_commit_225 : decode cX6_commit 225 = .ok (.aload_n 0, 1) := by decide +kernel
theorem dX6_commit_226 : decode cX6_commit 226 = .ok (.getfield 51, 3) := by decide +kernel
theorem dX6_commit_229 : decode cX6_commit 229 = .ok (.iload_n 3, 1) := by decide +kernel
theorem dX6_commit_230 : decode cX6_commit 230 = .ok (.baload, 1) := by decide +kernel
theorem dX6_commit_231 : decode cX6_commit 231 = .ok (.ifCond .eq 7, 3) := by decide +kernel
theorem dX6_commit_234 : decode cX6_commit 234 = .ok (.iconst (-1), 1) := by decide +kernel
theorem dX6_commit_235 : decode cX6_commit 235 = .ok (.goto 5, 3) := by decide +kernel
theorem dX6_commit_238 : decode cX6_commit 238 = .ok (.iload 8, 2) := by decide +kernel
theorem dX6_commit_240 : decode cX6_commit 240 = .ok (.iastore, 1) := by decide +kernel
theorem dX6_commit_241 : decode cX6_commit 241 = .ok (.aload_n 0, 1) := by decide +kernel
theorem dX6_commit_242 : decode cX6_commit 242 = .ok (.getfield 51, 3) := by decide +kernel
theorem dX6_commit_245 : decode cX6_commit 245 = .ok (.iload_n 3, 1) := by decide +kernel
theorem dX6_commit_246 : decode cX6_commit 246 = .ok (.iconst 0, 1) := by decide +kernel
theorem dX6_commit_247 : decode cX6_commit 247 = .ok (.bastore, 1) := by decide +kernel
theorem dX6_commit_248 : decode cX6_commit 248 = .ok (.iload 8, 2) := by decide +kernel
theorem dX6_commit_250 : decode cX6_commit 250 = .ok (.ireturn, 1) := by decide +kernel
