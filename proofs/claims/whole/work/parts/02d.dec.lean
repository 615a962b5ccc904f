theorem dX12_size_5 : decode cX12_size 5 = .ok (.ineg, 1) := by decide +kernel
theorem dX12_size_6 : decode cX12_size 6 = .ok (.goto 4, 3) := by decide +kernel
theorem dX12_size_9 : decode cX12_size 9 = .ok (.iload_n 0, 1) := by decide +kernel
theorem dX12_size_10 : decode cX12_size 10 = .ok (.ireturn, 1) := by decide +kernel
theorem dX12_down_0 : decode cX12_down 0 = .ok (.lload_n 0, 1) := by decide +kernel
theorem dX12_down_1 : decode cX12_down 1 = .ok (.lload_n 2, 1) := by decide +kernel
theorem dX12_down_2 : decode cX12_down 2 = .ok (.ldiv, 1) := by decide +kernel
theorem dX12_down_3 : decode cX12_down 3 = .ok (.lstore 4, 2) := by decide +kernel
theorem dX12_down_5 : decode cX12_down 5 = .ok (.lload_n 0, 1) := by decide +kernel
theorem dX12_down_6 : decode cX12_down 6 = .ok (.lload_n 2, 1) := by decide +kernel
theorem dX12_down_7 : decode cX12_down 7 = .ok (.lrem, 1) := by decide +kernel
theorem dX12_down_8 : decode cX12_down 8 = .ok (.lconst 0, 1) := by decide +kernel
theorem dX12_down_9 : decode cX12_down 9 = .ok (.lcmp, 1) := by decide +kernel
theorem dX12_down_10 : decode cX12_down 10 = .ok (.ifCond .ge 10, 3) := by decide +kernel
theorem dX12_down_13 : decode cX12_down 13 = .ok (.lload 4, 2) := by decide +kernel
theorem dX12_down_15 : decode cX12_down 15 = .ok (.lconst 1, 1) := by decide +kernel
theorem dX12_down_16 : decode cX12_down 16 = .ok (.lsub, 1) := by decide +kernel
theorem dX12_down_17 : decode cX12_down 17 = .ok (.goto 5, 3) := by decide +kernel
theorem dX12_down_20 : decode cX12_down 20 = .ok (.lload 4, 2) := by decide +kernel
theorem dX12_down_22 : decode cX12_down 22 = .ok (.lreturn, 1) := by decide +kernel
theorem dX12_round_0 : decode cX12_round 0 = .ok (.ldc2_w 60, 3) := by decide +kernel
theorem dX12_round_3 : decode cX12_round 3 = .ok (.lload_n 0, 1) := by decide +kernel
theorem dX12_round_4 : decode cX12_round 4 = .ok (.lmul, 1) := by decide +kernel
theorem dX12_round_5 : decode cX12_round 5 = .ok (.lload_n 2, 1) := by decide +kernel
theorem dX12_round_6 : decode cX12_round 6 = .ok (.ladd, 1) := by decide +kernel
theorem dX12_round_7 : decode cX12_round 7 = .ok (.ldc2_w 60, 3) := by decide +kernel
theorem dX12_round_10 : decode cX12_round 10 = .ok (.lload_n 2, 1) := by decide +kernel
theorem dX12_round_11 : decode cX12_round 11 = .ok (.lmul, 1) := by decide +kernel
theorem dX12_round_12 : decode cX12_round 12 = .ok (.invokestatic 62, 3) := by decide +kernel
theorem dX12_round_15 : decode cX12_round 15 = .ok (.lreturn, 1) := by decide +kernel
theorem dX12_at_0 : decode cX12_at 0 = .ok (.sipush 128, 3) := by decide +kernel
theorem dX12_at_3 : decode cX12_at 3 = .ok (.iload_n 0, 1) := by decide +kernel
theorem dX12_at_4 : decode cX12_at 4 = .ok (.imul, 1) := by decide +kernel
theorem dX12_at_5 : decode cX12_at 5 = .ok (.iload_n 1, 1) := by decide +kernel
theorem dX12_at_6 : decode cX12_at 6 = .ok (.iadd, 1) := by decide +kernel
theorem dX12_at_7 : decode cX12_at 7 = .ok (.iload_n 2, 1) := by decide +kernel
theorem dX12_at_8 : decode cX12_at 8 = .ok (.iadd, 1) := by decide +kernel
theorem dX12_at_9 : decode cX12_at 9 = .ok (.ireturn, 1) := by decide +kernel
theorem dX12_isCurve_0 : decode cX12_isCurve 0 = .ok (.iload_n 0, 1) := by decide +kernel
theorem dX12_isCurve_1 : decode cX12_isCurve 1 = .ok (.iconst 0, 1) := by decide +kernel
theorem dX12_isCurve_2 : decode cX12_isCurve 2 = .ok (.iconst 3, 1) := by decide +kernel
theorem dX12_isCurve_3 : decode cX12_isCurve 3 = .ok (.invokestatic 66, 3) := by decide +kernel
theorem dX12_isCurve_6 : decode cX12_isCurve 6 = .ok (.ireturn, 1) := by decide +kernel
theorem dX12_many_0 : decode cX12_many 0 = .ok (.aload_n 0, 1) := by decide +kernel
theorem dX12_many_1 : decode cX12_many 1 = .ok (.getfield 7, 3) := by decide +kernel
theorem dX12_many_4 : decode cX12_many 4 = .ok (.iload_n 1, 1) := by decide +kernel
theorem dX12_many_5 : decode cX12_many 5 = .ok (.iconst 0, 1) := by decide +kernel
theorem dX12_many_6 : decode cX12_many 6 = .ok (.iconst 0, 1) := by decide +kernel
theorem dX12_many_7 : decode cX12_many 7 = .ok (.invokestatic 70, 3) := by decide +kernel
theorem dX12_many_10 : decode cX12_many 10 = .ok (.iaload, 1) := by decide +kernel
theorem dX12_many_11 : decode cX12_many 11 = .ok (.ireturn, 1) := by decide +kernel
theorem dX12_frame_0 : decode cX12_frame 0 = .ok (.aload_n 0, 1) := by decide +kernel
theorem dX12_frame_1 : decode cX12_frame 1 = .ok (.getfield 7, 3) := by decide +kernel
theorem dX12_frame_4 : decode cX12_frame 4 = .ok (.iload_n 1, 1) := by decide +kernel
theorem dX12_frame_5 : decode cX12_frame 5 = .ok (.iconst 4, 1) := by decide +kernel
theorem dX12_frame_6 : decode cX12_frame 6 = .ok (.iload_n 2, 1) := by decide +kernel
theorem dX12_frame_7 : decode cX12_frame 7 = .ok (.invokestatic 70, 3) := by decide +kernel
theorem dX12_frame_10 : decode cX12_frame 10 = .ok (.iaload, 1) := by decide +kernel
theorem dX12_frame_11 : decode cX12_frame 11 = .ok (.ireturn, 1) := by decide +kernel
theorem dX12_isKey_0 : decode cX12_isKey 0 = .ok (.iload_n 1, 1) := by decide +kernel
theorem dX12_isKey_1 : decode cX12_isKey 1 = .ok (.invokestatic 74, 3) := by decide +kernel
theorem dX12_isKey_4 : decode cX12_isKey 4 = .ok (.ifCond .eq 22, 3) := by decide +kernel
theorem dX12_isKey_7 : decode cX12_isKey 7 = .ok (.iload_n 2, 1) := by decide +kernel
theorem dX12_isKey_8 : decode cX12_isKey 8 = .ok (.iconst 0, 1) := by decide +kernel
theorem dX12_isKey_9 : decode cX12_isKey 9 = .ok (.aload_n 0, 1) := by decide +kernel
theorem dX12_isKey_10 : decode cX12_isKey 10 = .ok (.iload_n 1, 1) := by decide +kernel
theorem dX12_isKey_11 : decode cX12_isKey 11 = .ok (.invokevirtual 78, 3) := by decide +kernel
theorem dX12_isKey_14 : decode cX12_isKey 14 = .ok (.iconst 1, 1) := by decide +kernel
theorem dX12_isKey_15 : decode cX12_isKey 15 = .ok (.isub, 1) := by decide +kernel
theorem dX12_isKey_16 : decode cX12_isKey 16 = .ok (.invokestatic 66, 3) := by decide +kernel
theorem dX12_isKey_19 : decode cX12_isKey 19 = .ok (.ifCond .eq 7, 3) := by decide +kernel
theorem dX12_isKey_22 : decode cX12_isKey 22 = .ok (.iconst 1, 1) := by decide +kernel
theorem dX12_isKey_23 : decode cX12_isKey 23 = .ok (.goto 4, 3) := by decide +kernel
theorem dX12_isKey_26 : decode cX12_isKey 26 = .ok (.iconst 0, 1) := by decide +kernel
theorem dX12_isKey_27 : decode cX12_isKey 27 = .ok (.ireturn, 1) := by decide +kernel
theorem dX12_find_0 : decode cX12_find 0 = .ok (.iconst 0, 1) := by decide +kernel
theorem dX12_find_1 : decode cX12_find 1 = .ok (.istore_n 3, 1) := by decide +kernel
theorem dX12_find_2 : decode cX12_find 2 = .ok (.iload_n 3, 1) := by decide +kernel
theorem dX12_find_3 : decode cX12_find 3 = .ok (.aload_n 0, 1) := by decide +kernel
theorem dX12_find_4 : decode cX12_find 4 = .ok (.iload_n 1, 1) := by decide +kernel
theorem dX12_find_5 : decode cX12_find 5 = .ok (.invokevirtual 78, 3) := by decide +kernel
theorem dX12_find_8 : decode cX12_find 8 = .ok (.if_icmp .ge 21, 3) := by decide +kernel
theorem dX12_find_11 : decode cX12_find 11 = .ok (.aload_n 0, 1) := by decide +kernel
theorem dX12_find_12 : decode cX12_find 12 = .ok (.iload_n 1, 1) := by decide +kernel
theorem dX12_find_13 : decode cX12_find 13 = .ok (.iload_n 3, 1) := by decide +kernel
theorem dX12_find_14 : decode cX12_find 14 = .ok (.invokevirtual 82, 3) := by decide +kernel
theorem dX12_find_17 : decode cX12_find 17 = .ok (.iload_n 2, 1) := by decide +kernel
theorem dX12_find_18 : decode cX12_find 18 = .ok (.if_icmp .ne 5, 3) := by decide +kernel
theorem dX12_find_21 : decode cX12_find 21 = .ok (.iload_n 3, 1) := by decide +kernel
theorem dX12_find_22 : decode cX12_find 22 = .ok (.ireturn, 1) := by decide +kernel
theorem dX12_find_23 : decode cX12_find 23 = .ok (.iinc 3 1, 3) := by decide +kernel
theorem dX12_find_26 : decode cX12_find 26 = .ok (.goto (-24), 3) := by decide +kernel
theorem dX12_find_29 : decode cX12_find 29 = .ok (.iconst (-1), 1) := by decide +kernel
theorem dX12_find_30 : decode cX12_find 30 = .ok (.ireturn, 1) := by decide +kernel
theorem dX12_changes_0 : decode cX12_changes 0 = .ok (.aload_n 0, 1) := by decide +kernel
theorem dX12_changes_1 : decode cX12_changes 1 = .ok (.getfield 86, 3) := by decide +kernel
theorem dX12_changes_4 : decode cX12_changes 4 = .ok (.bipush 10, 2) := by decide +kernel
theorem dX12_changes_6 : decode cX12_changes 6 = .ok (.if_icmp .ne 40, 3) := by decide +kernel
theorem dX12_changes_9 : decode cX12_changes 9 = .ok (.iconst 0, 1) := by decide +kernel
theorem dX12_changes_10 : decode cX12_changes 10 = .ok (.istore_n 1, 1) := by decide +kernel
theorem dX12_changes_11 : decode cX12_changes 11 = .ok (.iload_n 1, 1) := by decide +kernel
theorem dX12_changes_12 : decode cX12_changes 12 = .ok (.sipush 5940, 3) := by decide +kernel
theorem dX12_changes_15 : decode cX12_changes 15 = .ok (.if_icmp .ge 25, 3) := by decide +kernel
theorem dX12_changes_18 : decode cX12_changes 18 = .ok (.aload_n 0, 1) := by decide +kernel
theorem dX12_changes_19 : decode cX12_changes 19 = .ok (.getfield 13, 3) := by decide +kernel
theorem dX12_changes_22 : decode cX12_changes 22 = .ok (.iload_n 1, 1) := by decide +kernel
theorem dX12_changes_23 : decode cX12_changes 23 = .ok (.aload_n 0, 1) := by decide +kernel
theorem dX12_changes_24 : decode cX12_changes 24 = .ok (.getfield 13, 3) := by decide +kernel
theorem dX12_changes_27 : decode cX12_changes 27 = .ok (.iload_n 1, 1) := by decide +kernel
theorem dX12_changes_28 : decode cX12_changes 28 = .ok (.sipush 660, 3) := by decide +kernel
theorem dX12_changes_31 : decode cX12_changes 31 = .ok (.iadd, 1) := by decide +kernel
theorem dX12_changes_32 : decode cX12_changes 32 = .ok (.iaload, 1) := by decide +kernel
theorem dX12_changes_33 : decode cX12_changes 33 = .ok (.iastore, 1) := by decide +kernel
theorem dX12_changes_34 : decode cX12_changes 34 = .ok (.iinc 1 1, 3) := by decide +kernel
theorem dX12_changes_37 : decode cX12_changes 37 = .ok (.goto (-26), 3) := by decide +kernel
theorem dX12_changes_40 : decode cX12_changes 40 = .ok (.aload_n 0, 1) := by decide +kernel
theorem dX12_changes_41 : decode cX12_changes 41 = .ok (.bipush 9, 2) := by decide +kernel
theorem dX12_changes_43 : decode cX12_changes 43 = .ok (.putfield 86, 3) := by decide +kernel
theorem dX12_changes_46 : decode cX12_changes 46 = .ok (.iconst 0, 1) := by decide +kernel
theorem dX12_changes_47 : decode cX12_changes 47 = .ok (.istore_n 1, 1) := by decide +kernel
theorem dX12_changes_48 : decode cX12_changes 48 = .ok (.iload_n 1, 1) := by decide +kernel
theorem dX12_changes_49 : decode cX12_changes 49 = .ok (.sipush 660, 3) := by decide +kernel
theorem dX12_changes_52 : decode cX12_changes 52 = .ok (.if_icmp .ge 30, 3) := by decide +kernel
theorem dX12_changes_55 : decode cX12_changes 55 = .ok (.aload_n 0, 1) := by decide +kernel
theorem dX12_changes_56 : decode cX12_changes 56 = .ok (.getfield 13, 3) := by decide +kernel
theorem dX12_changes_59 : decode cX12_changes 59 = .ok (.sipush 660, 3) := by decide +kernel
theorem dX12_changes_62 : decode cX12_changes 62 = .ok (.aload_n 0, 1) := by decide +kernel
theorem dX12_changes_63 : decode cX12_changes 63 = .ok (.getfield 86, 3) := by decide +kernel
theorem dX12_changes_66 : decode cX12_changes 66 = .ok (.imul, 1) := by decide +kernel
theorem dX12_changes_67 : decode cX12_changes 67 = .ok (.iload_n 1, 1) := by decide +kernel
theorem dX12_changes_68 : decode cX12_changes 68 = .ok (.iadd, 1) := by decide +kernel
theorem dX12_changes_69 : decode cX12_changes 69 = .ok (.aload_n 0, 1) := by decide +kernel
theorem dX12_changes_70 : decode cX12_changes 70 = .ok (.getfield 7, 3) := by decide +kernel
theorem dX12_changes_73 : decode cX12_changes 73 = .ok (.iload_n 1, 1) := by decide +kernel
theorem dX12_changes_74 : decode cX12_changes 74 = .ok (.iaload, 1) := by decide +kernel
theorem dX12_changes_75 : decode cX12_changes 75 = .ok (.iastore, 1) := by decide +kernel
theorem dX12_changes_76 : decode cX12_changes 76 = .ok (.iinc 1 1, 3) := by decide +kernel
theorem dX12_changes_79 : decode cX12_changes 79 = .ok (.goto (-31), 3) := by decide +kernel
theorem dX12_changes_82 : decode cX12_changes 82 = .ok (.aload_n 0, 1) := by decide +kernel
theorem dX12_changes_83 : decode cX12_changes 83 = .ok (.dup, 1) := by decide +kernel
theorem dX12_changes_84 : decode cX12_changes 84 = .ok (.getfield 86, 3) := by decide +kernel
theorem dX12_changes_87 : decode cX12_changes 87 = .ok (.iconst 1, 1) := by decide +kernel
theorem dX12_changes_88 : decode cX12_changes 88 = .ok (.iadd, 1) := by decide +kernel
theorem dX12_changes_89 : decode cX12_changes 89 = .ok (.putfield 86, 3) := by decide +kernel
theorem dX12_changes_92 : decode cX12_changes 92 = .ok (.return_, 1) := by decide +kernel
theorem dX12_undo_0 : decode cX12_undo 0 = .ok (.aload_n 0, 1) := by decide +kernel
theorem dX12_undo_1 : decode cX12_undo 1 = .ok (.getfield 86, 3) := by decide +kernel
theorem dX12_undo_4 : decode cX12_undo 4 = .ok (.ifCond .ne 6, 3) := by decide +kernel
theorem dX12_undo_7 : decode cX12_undo 7 = .ok (.ldc 90, 2) := by decide +kernel
theorem dX12_undo_9 : decode cX12_undo 9 = .ok (.ireturn, 1) := by decide +kernel
theorem dX12_undo_10 : decode cX12_undo 10 = .ok (.aload_n 0, 1) := by decide +kernel
theorem dX12_undo_11 : decode cX12_undo 11 = .ok (.dup, 1) := by decide +kernel
theorem dX12_undo_12 : decode cX12_undo 12 = .ok (.getfield 86, 3) := by decide +kernel
theorem dX12_undo_15 : decode cX12_undo 15 = .ok (.iconst 1, 1) := by decide +kernel
theorem dX12_undo_16 : decode cX12_undo 16 = .ok (.isub, 1) := by decide +kernel
theorem dX12_undo_17 : decode cX12_undo 17 = .ok (.putfield 86, 3) := by decide +kernel
theorem dX12_undo_20 : decode cX12_undo 20 = .ok (.iconst 0, 1) := by decide +kernel
theorem dX12_undo_21 : decode cX12_undo 21 = .ok (.istore_n 1, 1) := by decide +kernel
theorem dX12_undo_22 : decode cX12_undo 22 = .ok (.iload_n 1, 1) := by decide +kernel
theorem dX12_undo_23 : decode cX12_undo 23 = .ok (.sipush 660, 3) := by decide +kernel
theorem dX12_undo_26 : decode cX12_undo 26 = .ok (.if_icmp .ge 30, 3) := by decide +kernel
theorem dX12_undo_29 : decode cX12_undo 29 = .ok (.aload_n 0, 1) := by decide +kernel
theorem dX12_undo_30 : decode cX12_undo 30 = .ok (.getfield 7, 3) := by decide +kernel
theorem dX12_undo_33 : decode cX12_undo 33 = .ok (.iload_n 1, 1) := by decide +kernel
theorem dX12_undo_34 : decode cX12_undo 34 = .ok (.aload_n 0, 1) := by decide +kernel
theorem dX12_undo_35 : decode cX12_undo 35 = .ok (.getfield 13, 3) := by decide +kernel
theorem dX12_undo_38 : decode cX12_undo 38 = .ok (.sipush 660, 3) := by decide +kernel
theorem dX12_undo_41 : decode cX12_undo 41 = .ok (.aload_n 0, 1) := by decide +kernel
theorem dX12_undo_42 : decode cX12_undo 42 = .ok (.getfield 86, 3) := by decide +kernel
theorem dX12_undo_45 : decode cX12_undo 45 = .ok (.imul, 1) := by decide +kernel
theorem dX12_undo_46 : decode cX12_undo 46 = .ok (.iload_n 1, 1) := by decide +kernel
theorem dX12_undo_47 : decode cX12_undo 47 = .ok (.iadd, 1) := by decide +kernel
theorem dX12_undo_48 : decode cX12_undo 48 = .ok (.iaload, 1) := by decide +kernel
theorem dX12_undo_49 : decode cX12_undo 49 = .ok (.iastore, 1) := by decide +kernel
theorem dX12_undo_50 : decode cX12_undo 50 = .ok (.iinc 1 1, 3) := by decide +kernel
theorem dX12_undo_53 : decode cX12_undo 53 = .ok (.goto (-31), 3) := by decide +kernel
theorem dX12_undo_56 : decode cX12_undo 56 = .ok (.aload_n 0, 1) := by decide +kernel
theorem dX12_undo_57 : decode cX12_undo 57 = .ok (.getfield 86, 3) := by decide +kernel
theorem dX12_undo_60 : decode cX12_undo 60 = .ok (.ireturn, 1) := by decide +kernel
theorem dX12_secant_0 : decode cX12_secant 0 = .ok (.ldc2_w 91, 3) := by decide +kernel
theorem dX12_secant_3 : decode cX12_secant 3 = .ok (.aload_n 0, 1) := by decide +kernel
theorem dX12_secant_4 : decode cX12_secant 4 = .ok (.getfield 7, 3) := by decide +kernel
theorem dX12_secant_7 : decode cX12_secant 7 = .ok (.iload_n 1, 1) := by decide +kernel
theorem dX12_secant_8 : decode cX12_secant 8 = .ok (.bipush 28, 2) := by decide +kernel
theorem dX12_secant_10 : decode cX12_secant 10 = .ok (.iload_n 2, 1) := by decide +kernel
theorem dX12_secant_11 : decode cX12_secant 11 = .ok (.iconst 1, 1) := by decide +kernel
theorem dX12_secant_12 : decode cX12_secant 12 = .ok (.iadd, 1) := by decide +kernel
theorem dX12_secant_13 : decode cX12_secant 13 = .ok (.invokestatic 70, 3) := by decide +kernel
theorem dX12_secant_16 : decode cX12_secant 16 = .ok (.iaload, 1) := by decide +kernel
theorem dX12_secant_17 : decode cX12_secant 17 = .ok (.aload_n 0, 1) := by decide +kernel
theorem dX12_secant_18 : decode cX12_secant 18 = .ok (.getfield 7, 3) := by decide +kernel
theorem dX12_secant_21 : decode cX12_secant 21 = .ok (.iload_n 1, 1) := by decide +kernel
theorem dX12_secant_22 : decode cX12_secant 22 = .ok (.bipush 28, 2) := by decide +kernel
theorem dX12_secant_24 : decode cX12_secant 24 = .ok (.iload_n 2, 1) := by decide +kernel
theorem dX12_secant_25 : decode cX12_secant 25 = .ok (.invokestatic 70, 3) := by decide +kernel
theorem dX12_secant_28 : decode cX12_secant 28 = .ok (.iaload, 1) := by decide +kernel
theorem dX12_secant_29 : decode cX12_secant 29 = .ok (.isub, 1) := by decide +kernel
theorem dX12_secant_30 : decode cX12_secant 30 = .ok (.i2l, 1) := by decide +kernel
theorem dX12_secant_31 : decode cX12_secant 31 = .ok (.lmul, 1) := by decide +kernel
theorem dX12_secant_32 : decode cX12_secant 32 = .ok (.aload_n 0, 1) := by decide +kernel
theorem dX12_secant_33 : decode cX12_secant 33 = .ok (.iload_n 1, 1) := by decide +kernel
theorem dX12_secant_34 : decode cX12_secant 34 = .ok (.iload_n 2, 1) := by decide +kernel
theorem dX12_secant_35 : decode cX12_secant 35 = .ok (.iconst 1, 1) := by decide +kernel
theorem dX12_secant_36 : decode cX12_secant 36 = .ok (.iadd, 1) := by decide +kernel
theorem dX12_secant_37 : decode cX12_secant 37 = .ok (.invokevirtual 82, 3) := by decide +kernel
theorem dX12_secant_40 : decode cX12_secant 40 = .ok (.aload_n 0, 1) := by decide +kernel
theorem dX12_secant_41 : decode cX12_secant 41 = .ok (.iload_n 1, 1) := by decide +kernel
theorem dX12_secant_42 : decode cX12_secant 42 = .ok (.iload_n 2, 1) := by decide +kernel
theorem dX12_secant_43 : decode cX12_secant 43 = .ok (.invokevirtual 82, 3) := by decide +kernel
theorem dX12_secant_46 : decode cX12_secant 46 = .ok (.isub, 1) := by decide +kernel
theorem dX12_secant_47 : decode cX12_secant 47 = .ok (.i2l, 1) := by decide +kernel
theorem dX12_secant_48 : decode cX12_secant 48 = .ok (.invokestatic 93, 3) := by decide +kernel
theorem dX12_secant_51 : decode cX12_secant 51 = .ok (.l2i, 1) := by decide +kernel
theorem dX12_secant_52 : decode cX12_secant 52 = .ok (.ireturn, 1) := by decide +kernel
theorem dX12_auto_0 : decode cX12_auto 0 = .ok (.iload_n 2, 1) := by decide +kernel
theorem dX12_auto_1 : decode cX12_auto 1 = .ok (.ifCond .eq 14, 3) := by decide +kernel
theorem dX12_auto_4 : decode cX12_auto 4 = .ok (.iload_n 2, 1) := by decide +kernel
theorem dX12_auto_5 : decode cX12_auto 5 = .ok (.aload_n 0, 1) := by decide +kernel
theorem dX12_auto_6 : decode cX12_auto 6 = .ok (.iload_n 1, 1) := by decide +kernel
theorem dX12_auto_7 : decode cX12_auto 7 = .ok (.invokevirtual 78, 3) := by decide +kernel
theorem dX12_auto_10 : decode cX12_auto 10 = .ok (.iconst 1, 1) := by decide +kernel
theorem dX12_auto_11 : decode cX12_auto 11 = .ok (.isub, 1) := by decide +kernel
theorem dX12_auto_12 : decode cX12_auto 12 = .ok (.if_icmp .ne 20, 3) := by decide +kernel
theorem dX12_auto_15 : decode cX12_auto 15 = .ok (.aload_n 0, 1) := by decide +kernel
theorem dX12_auto_16 : decode cX12_auto 16 = .ok (.iload_n 1, 1) := by decide +kernel
theorem dX12_auto_17 : decode cX12_auto 17 = .ok (.iload_n 2, 1) := by decide +kernel
theorem dX12_auto_18 : decode cX12_auto 18 = .ok (.ifCond .ne 7, 3) := by decide +kernel
theorem dX12_auto_21 : decode cX12_auto 21 = .ok (.iconst 0, 1) := by decide +kernel
theorem dX12_auto_22 : decode cX12_auto 22 = .ok (.goto 6, 3) := by decide +kernel
theorem dX12_auto_25 : decode cX12_auto 25 = .ok (.iload_n 2, 1) := by decide +kernel
theorem dX12_auto_26 : decode cX12_auto 26 = .ok (.iconst 1, 1) := by decide +kernel
theorem dX12_auto_27 : decode cX12_auto 27 = .ok (.isub, 1) := by decide +kernel
theorem dX12_auto_28 : decode cX12_auto 28 = .ok (.invokevirtual 96, 3) := by decide +kernel
theorem dX12_auto_31 : decode cX12_auto 31 = .ok (.ireturn, 1) := by decide +kernel
theorem dX12_auto_32 : decode cX12_auto 32 = .ok (.ldc2_w 91, 3) := by decide +kernel
theorem dX12_auto_35 : decode cX12_auto 35 = .ok (.aload_n 0, 1) := by decide +kernel
theorem dX12_auto_36 : decode cX12_auto 36 = .ok (.getfield 7, 3) := by decide +kernel
theorem dX12_auto_39 : decode cX12_auto 39 = .ok (.iload_n 1, 1) := by decide +kernel
theorem dX12_auto_40 : decode cX12_auto 40 = .ok (.bipush 28, 2) := by decide +kernel
theorem dX12_auto_42 : decode cX12_auto 42 = .ok (.iload_n 2, 1) := by decide +kernel
theorem dX12_auto_43 : decode cX12_auto 43 = .ok (.iconst 1, 1) := by decide +kernel
theorem dX12_auto_44 : decode cX12_auto 44 = .ok (.iadd, 1) := by decide +kernel
theorem dX12_auto_45 : decode cX12_auto 45 = .ok (.invokestatic 70, 3) := by decide +kernel
theorem dX12_auto_48 : decode cX12_auto 48 = .ok (.iaload, 1) := by decide +kernel
theorem dX12_auto_49 : decode cX12_auto 49 = .ok (.aload_n 0, 1) := by decide +kernel
theorem dX12_auto_50 : decode cX12_auto 50 = .ok (.getfield 7, 3) := by decide +kernel
theorem dX12_auto_53 : decode cX12_auto 53 = .ok (.iload_n 1, 1) := by decide +kernel
theorem dX12_auto_54 : decode cX12_auto 54 = .ok (.bipush 28, 2) := by decide +kernel
theorem dX12_auto_56 : decode cX12_auto 56 = .ok (.iload_n 2, 1) := by decide +kernel
theorem dX12_auto_57 : decode cX12_auto 57 = .ok (.iconst 1, 1) := by decide +kernel
theorem dX12_auto_58 : decode cX12_auto 58 = .ok (.isub, 1) := by decide +kernel
theorem dX12_auto_59 : decode cX12_auto 59 = .ok (.invokestatic 70, 3) := by decide +kernel
theorem dX12_auto_62 : decode cX12_auto 62 = .ok (.iaload, 1) := by decide +kernel
theorem dX12_auto_63 : decode cX12_auto 63 = .ok (.isub, 1) := by decide +kernel
theorem dX12_auto_64 : decode cX12_auto 64 = .ok (.i2l, 1) := by decide +kernel
theorem dX12_auto_65 : decode cX12_auto 65 = .ok (.lmul, 1) := by decide +kernel
theorem dX12_auto_66 : decode cX12_auto 66 = .ok (.aload_n 0, 1) := by decide +kernel
theorem dX12_auto_67 : decode cX12_auto 67 = .ok (.iload_n 1, 1) := by decide +kernel
theorem dX12_auto_68 : decode cX12_auto 68 = .ok (.iload_n 2, 1) := by decide +kernel
theorem dX12_auto_69 : decode cX12_auto 69 = .ok (.iconst 1, 1) := by decide +kernel
theorem dX12_auto_70 : decode cX12_auto 70 = .ok (.iadd, 1) := by decide +kernel
theorem dX12_auto_71 : decode cX12_auto 71 = .ok (.invokevirtual 82, 3) := by decide +kernel
theorem dX12_auto_74 : decode cX12_auto 74 = .ok (.aload_n 0, 1) := by decide +kernel
theorem dX12_auto_75 : decode cX12_auto 75 = .ok (.iload_n 1, 1) := by decide +kernel
theorem dX12_auto_76 : decode cX12_auto 76 = .ok (.iload_n 2, 1) := by decide +kernel
theorem dX12_auto_77 : decode cX12_auto 77 = .ok (.iconst 1, 1) := by decide +kernel
theorem dX12_auto_78 : decode cX12_auto 78 = .ok (.isub, 1) := by decide +kernel
theorem dX12_auto_79 : decode cX12_auto 79 = .ok (.invokevirtual 82, 3) := by decide +kernel
theorem dX12_auto_82 : decode cX12_auto 82 = .ok (.isub, 1) := by decide +kernel
theorem dX12_auto_83 : decode cX12_auto 83 = .ok (.i2l, 1) := by decide +kernel
theorem dX12_auto_84 : decode cX12_auto 84 = .ok (.invokestatic 93, 3) := by decide +kernel
theorem dX12_auto_87 : decode cX12_auto 87 = .ok (.l2i, 1) := by decide +kernel
theorem dX12_auto_88 : decode cX12_auto 88 = .ok (.ireturn, 1) := by decide +kernel
theorem dX12_isBetween_0 : decode cX12_isBetween 0 = .ok (.aload_n 0, 1) := by decide +kernel
theorem dX12_isBetween_1 : decode cX12_isBetween 1 = .ok (.getfield 7, 3) := by decide +kernel
theorem dX12_isBetween_4 : decode cX12_isBetween 4 = .ok (.iload_n 1, 1) := by decide +kernel
theorem dX12_isBetween_5 : decode cX12_isBetween 5 = .ok (.bipush 28, 2) := by decide +kernel
theorem dX12_isBetween_7 : decode cX12_isBetween 7 = .ok (.iload_n 2, 1) := by decide +kernel
theorem dX12_isBetween_8 : decode cX12_isBetween 8 = .ok (.invokestatic 70, 3) := by decide +kernel
theorem dX12_isBetween_11 : decode cX12_isBetween 11 = .ok (.iaload, 1) := by decide +kernel
theorem dX12_isBetween_12 : decode cX12_isBetween 12 = .ok (.istore_n 3, 1) := by decide +kernel
theorem dX12_isBetween_13 : decode cX12_isBetween 13 = .ok (.aload_n 0, 1) := by decide +kernel
theorem dX12_isBetween_14 : decode cX12_isBetween 14 = .ok (.getfield 7, 3) := by decide +kernel
theorem dX12_isBetween_17 : decode cX12_isBetween 17 = .ok (.iload_n 1, 1) := by decide +kernel
theorem dX12_isBetween_18 : decode cX12_isBetween 18 = .ok (.bipush 28, 2) := by decide +kernel
theorem dX12_isBetween_20 : decode cX12_isBetween 20 = .ok (.iload_n 2, 1) := by decide +kernel
theorem dX12_isBetween_21 : decode cX12_isBetween 21 = .ok (.iconst 1, 1) := by decide +kernel
theorem dX12_isBetween_22 : decode cX12_isBetween 22 = .ok (.isub, 1) := by decide +kernel
theorem dX12_isBetween_23 : decode cX12_isBetween 23 = .ok (.invokestatic 70, 3) := by decide +kernel
theorem dX12_isBetween_26 : decode cX12_isBetween 26 = .ok (.iaload, 1) := by decide +kernel
theorem dX12_isBetween_27 : decode cX12_isBetween 27 = .ok (.istore 4, 2) := by decide +kernel
theorem dX12_isBetween_29 : decode cX12_isBetween 29 = .ok (.aload_n 0, 1) := by decide +kernel
theorem dX12_isBetween_30 : decode cX12_isBetween 30 = .ok (.getfield 7, 3) := by decide +kernel
theorem dX12_isBetween_33 : decode cX12_isBetween 33 = .ok (.iload_n 1, 1) := by decide +kernel
theorem dX12_isBetween_34 : decode cX12_isBetween 34 = .ok (.bipush 28, 2) := by decide +kernel
theorem dX12_isBetween_36 : decode cX12_isBetween 36 = .ok (.iload_n 2, 1) := by decide +kernel
theorem dX12_isBetween_37 : decode cX12_isBetween 37 = .ok (.iconst 1, 1) := by decide +kernel
theorem dX12_isBetween_38 : decode cX12_isBetween 38 = .ok (.iadd, 1) := by decide +kernel
theorem dX12_isBetween_39 : decode cX12_isBetween 39 = .ok (.invokestatic 70, 3) := by decide +kernel
theorem dX12_isBetween_42 : decode cX12_isBetween 42 = .ok (.iaload, 1) := by decide +kernel
theorem dX12_isBetween_43 : decode cX12_isBetween 43 = .ok (.istore 5, 2) := by decide +kernel
theorem dX12_isBetween_45 : decode cX12_isBetween 45 = .ok (.iload_n 3, 1) := by decide +kernel
theorem dX12_isBetween_46 : decode cX12_isBetween 46 = .ok (.iload 4, 2) := by decide +kernel
theorem dX12_isBetween_48 : decode cX12_isBetween 48 = .ok (.if_icmp .le 9, 3) := by decide +kernel
theorem dX12_isBetween_51 : decode cX12_isBetween 51 = .ok (.iload_n 3, 1) := by decide +kernel
theorem dX12_isBetween_52 : decode cX12_isBetween 52 = .ok (.iload 5, 2) := by decide +kernel
theorem dX12_isBetween_54 : decode cX12_isBetween 54 = .ok (.if_icmp .lt 15, 3) := by decide +kernel
theorem dX12_isBetween_57 : decode cX12_isBetween 57 = .ok (.iload_n 3, 1) := by decide +kernel
theorem dX12_isBetween_58 : decode cX12_isBetween 58 = .ok (.iload 4, 2) := by decide +kernel
theorem dX12_isBetween_60 : decode cX12_isBetween 60 = .ok (.if_icmp .ge 13, 3) := by decide +kernel
theorem dX12_isBetween_63 : decode cX12_isBetween 63 = .ok (.iload_n 3, 1) := by decide +kernel
theorem dX12_isBetween_64 : decode cX12_isBetween 64 = .ok (.iload 5, 2) := by decide +kernel
theorem dX12_isBetween_66 : decode cX12_isBetween 66 = .ok (.if_icmp .le 7, 3) := by decide +kernel
theorem dX12_isBetween_69 : decode cX12_isBetween 69 = .ok (.iconst 1, 1) := by decide +kernel
theorem dX12_isBetween_70 : decode cX12_isBetween 70 = .ok (.goto 4, 3) := by decide +kernel
theorem dX12_isBetween_73 : decode cX12_isBetween 73 = .ok (.iconst 0, 1) := by decide +kernel
theorem dX12_isBetween_74 : decode cX12_isBetween 74 = .ok (.ireturn, 1) := by decide +kernel
theorem dX12_monotone_0 : decode cX12_monotone 0 = .ok (.aload_n 0, 1) := by decide +kernel
theorem dX12_monotone_1 : decode cX12_monotone 1 = .ok (.iload_n 1, 1) := by decide +kernel
theorem dX12_monotone_2 : decode cX12_monotone 2 = .ok (.iload_n 2, 1) := by decide +kernel
theorem dX12_monotone_3 : decode cX12_monotone 3 = .ok (.iconst 1, 1) := by decide +kernel
theorem dX12_monotone_4 : decode cX12_monotone 4 = .ok (.isub, 1) := by decide +kernel
theorem dX12_monotone_5 : decode cX12_monotone 5 = .ok (.invokevirtual 96, 3) := by decide +kernel
theorem dX12_monotone_8 : decode cX12_monotone 8 = .ok (.istore_n 3, 1) := by decide +kernel
theorem dX12_monotone_9 : decode cX12_monotone 9 = .ok (.aload_n 0, 1) := by decide +kernel
theorem dX12_monotone_10 : decode cX12_monotone 10 = .ok (.iload_n 1, 1) := by decide +kernel
theorem dX12_monotone_11 : decode cX12_monotone 11 = .ok (.iload_n 2, 1) := by decide +kernel
theorem dX12_monotone_12 : decode cX12_monotone 12 = .ok (.invokevirtual 96, 3) := by decide +kernel
theorem dX12_monotone_15 : decode cX12_monotone 15 = .ok (.istore 4, 2) := by decide +kernel
theorem dX12_monotone_17 : decode cX12_monotone 17 = .ok (.iload_n 3, 1) := by decide +kernel
theorem dX12_monotone_18 : decode cX12_monotone 18 = .ok (.ifCond .eq 30, 3) := by decide +kernel
theorem dX12_monotone_21 : decode cX12_monotone 21 = .ok (.iload 4, 2) := by decide +kernel
theorem dX12_monotone_23 : decode cX12_monotone 23 = .ok (.ifCond .eq 25, 3) := by decide +kernel
theorem dX12_monotone_26 : decode cX12_monotone 26 = .ok (.iload_n 3, 1) := by decide +kernel
theorem dX12_monotone_27 : decode cX12_monotone 27 = .ok (.ifCond .le 7, 3) := by decide +kernel
theorem dX12_monotone_30 : decode cX12_monotone 30 = .ok (.iconst 1, 1) := by decide +kernel
theorem dX12_monotone_31 : decode cX12_monotone 31 = .ok (.goto 4, 3) := by decide +kernel
theorem dX12_monotone_34 : decode cX12_monotone 34 = .ok (.iconst 0, 1) := by decide +kernel
theorem dX12_monotone_35 : decode cX12_monotone 35 = .ok (.iload 4, 2) := by decide +kernel
theorem dX12_monotone_37 : decode cX12_monotone 37 = .ok (.ifCond .le 7, 3) := by decide +kernel
theorem dX12_monotone_40 : decode cX12_monotone 40 = .ok (.iconst 1, 1) := by decide +kernel
theorem dX12_monotone_41 : decode cX12_monotone 41 = .ok (.goto 4, 3) := by decide +kernel
theorem dX12_monotone_44 : decode cX12_monotone 44 = .ok (.iconst 0, 1) := by decide +kernel
theorem dX12_monotone_45 : decode cX12_monotone 45 = .ok (.if_icmp .eq 5, 3) := by decide +kernel
theorem dX12_monotone_48 : decode cX12_monotone 48 = .ok (.iconst 0, 1) := by decide +kernel
theorem dX12_monotone_49 : decode cX12_monotone 49 = .ok (.ireturn, 1) := by decide +kernel
theorem dX12_monotone_50 : decode cX12_monotone 50 = .ok (.aload_n 0, 1) := by decide +kernel
theorem dX12_monotone_51 : decode cX12_monotone 51 = .ok (.iload_n 1, 1) := by decide +kernel
theorem dX12_monotone_52 : decode cX12_monotone 52 = .ok (.iload_n 2, 1) := by decide +kernel
theorem dX12_monotone_53 : decode cX12_monotone 53 = .ok (.invokevirtual 99, 3) := by decide +kernel
theorem dX12_monotone_56 : decode cX12_monotone 56 = .ok (.istore 5, 2) := by decide +kernel
theorem dX12_monotone_58 : decode cX12_monotone 58 = .ok (.iconst 3, 1) := by decide +kernel
theorem dX12_monotone_59 : decode cX12_monotone 59 = .ok (.iload_n 3, 1) := by decide +kernel
theorem dX12_monotone_60 : decode cX12_monotone 60 = .ok (.invokestatic 102, 3) := by decide +kernel
theorem dX12_monotone_63 : decode cX12_monotone 63 = .ok (.iload 4, 2) := by decide +kernel
theorem dX12_monotone_65 : decode cX12_monotone 65 = .ok (.invokestatic 102, 3) := by decide +kernel
theorem dX12_monotone_68 : decode cX12_monotone 68 = .ok (.invokestatic 105, 3) := by decide +kernel
theorem dX12_monotone_71 : decode cX12_monotone 71 = .ok (.imul, 1) := by decide +kernel
theorem dX12_monotone_72 : decode cX12_monotone 72 = .ok (.istore 6, 2) := by decide +kernel
theorem dX12_monotone_74 : decode cX12_monotone 74 = .ok (.iload 5, 2) := by decide +kernel
theorem dX12_monotone_76 : decode cX12_monotone 76 = .ok (.i2l, 1) := by decide +kernel
theorem dX12_monotone_77 : decode cX12_monotone 77 = .ok (.iload 6, 2) := by decide +kernel
theorem dX12_monotone_79 : decode cX12_monotone 79 = .ok (.invokestatic 108, 3) := by decide +kernel
theorem dX12_monotone_82 : decode cX12_monotone 82 = .ok (.ireturn, 1) := by decide +kernel
theorem dX12_slopeOf_0 : decode cX12_slopeOf 0 = .ok (.aload_n 0, 1) := by decide +kernel
theorem dX12_slopeOf_1 : decode cX12_slopeOf 1 = .ok (.iload_n 1, 1) := by decide +kernel
theorem dX12_slopeOf_2 : decode cX12_slopeOf 2 = .ok (.invokevirtual 78, 3) := by decide +kernel
theorem dX12_slopeOf_5 : decode cX12_slopeOf 5 = .ok (.istore 4, 2) := by decide +kernel
theorem dX12_slopeOf_7 : decode cX12_slopeOf 7 = .ok (.aload_n 0, 1) := by decide +kernel
theorem dX12_slopeOf_8 : decode cX12_slopeOf 8 = .ok (.getfield 7, 3) := by decide +kernel
theorem dX12_slopeOf_11 : decode cX12_slopeOf 11 = .ok (.iload_n 1, 1) := by decide +kernel
theorem dX12_slopeOf_12 : decode cX12_slopeOf 12 = .ok (.bipush 52, 2) := by decide +kernel
theorem dX12_slopeOf_14 : decode cX12_slopeOf 14 = .ok (.iload_n 2, 1) := by decide +kernel
theorem dX12_slopeOf_15 : decode cX12_slopeOf 15 = .ok (.invokestatic 70, 3) := by decide +kernel
theorem dX12_slopeOf_18 : decode cX12_slopeOf 18 = .ok (.iaload, 1) := by decide +kernel
theorem dX12_slopeOf_19 : decode cX12_slopeOf 19 = .ok (.istore 5, 2) := by decide +kernel
theorem dX12_slopeOf_21 : decode cX12_slopeOf 21 = .ok (.iload 5, 2) := by decide +kernel
theorem dX12_slopeOf_23 : decode cX12_slopeOf 23 = .ok (.ifCond .ne 25, 3) := by decide +kernel
theorem dX12_slopeOf_26 : decode cX12_slopeOf 26 = .ok (.aload_n 0, 1) := by decide +kernel
theorem dX12_slopeOf_27 : decode cX12_slopeOf 27 = .ok (.getfield 7, 3) := by decide +kernel
theorem dX12_slopeOf_30 : decode cX12_slopeOf 30 = .ok (.iload_n 1, 1) := by decide +kernel
theorem dX12_slopeOf_31 : decode cX12_slopeOf 31 = .ok (.iload_n 3, 1) := by decide +kernel
theorem dX12_slopeOf_32 : decode cX12_slopeOf 32 = .ok (.ifCond .eq 8, 3) := by decide +kernel
theorem dX12_slopeOf_35 : decode cX12_slopeOf 35 = .ok (.bipush 100, 2) := by decide +kernel
theorem dX12_slopeOf_37 : decode cX12_slopeOf 37 = .ok (.goto 5, 3) := by decide +kernel
theorem dX12_slopeOf_40 : decode cX12_slopeOf 40 = .ok (.bipush 76, 2) := by decide +kernel
theorem dX12_slopeOf_42 : decode cX12_slopeOf 42 = .ok (.iload_n 2, 1) := by decide +kernel
theorem dX12_slopeOf_43 : decode cX12_slopeOf 43 = .ok (.invokestatic 70, 3) := by decide +kernel
theorem dX12_slopeOf_46 : decode cX12_slopeOf 46 = .ok (.iaload, 1) := by decide +kernel
theorem dX12_slopeOf_47 : decode cX12_slopeOf 47 = .ok (.ireturn, 1) := by decide +kernel
theorem dX12_slopeOf_48 : decode cX12_slopeOf 48 = .ok (.iload 4, 2) := by decide +kernel
theorem dX12_slopeOf_50 : decode cX12_slopeOf 50 = .ok (.iconst 1, 1) := by decide +kernel
theorem dX12_slopeOf_51 : decode cX12_slopeOf 51 = .ok (.if_icmp .eq 16, 3) := by decide +kernel
theorem dX12_slopeOf_54 : decode cX12_slopeOf 54 = .ok (.iload 5, 2) := by decide +kernel
theorem dX12_slopeOf_56 : decode cX12_slopeOf 56 = .ok (.iconst 1, 1) := by decide +kernel
theorem dX12_slopeOf_57 : decode cX12_slopeOf 57 = .ok (.if_icmp .eq 10, 3) := by decide +kernel
theorem dX12_slopeOf_60 : decode cX12_slopeOf 60 = .ok (.iload 5, 2) := by decide +kernel
theorem dX12_slopeOf_62 : decode cX12_slopeOf 62 = .ok (.bipush 6, 2) := by decide +kernel
theorem dX12_slopeOf_64 : decode cX12_slopeOf 64 = .ok (.if_icmp .ne 5, 3) := by decide +kernel
theorem dX12_slopeOf_67 : decode cX12_slopeOf 67 = .ok (.iconst 0, 1) := by decide +kernel
theorem dX12_slopeOf_68 : decode cX12_slopeOf 68 = .ok (.ireturn, 1) := by decide +kernel
theorem dX12_slopeOf_69 : decode cX12_slopeOf 69 = .ok (.iload_n 2, 1) := by decide +kernel
theorem dX12_slopeOf_70 : decode cX12_slopeOf 70 = .ok (.ifCond .eq 11, 3) := by decide +kernel
theorem dX12_slopeOf_73 : decode cX12_slopeOf 73 = .ok (.iload_n 2, 1) := by decide +kernel
theorem dX12_slopeOf_74 : decode cX12_slopeOf 74 = .ok (.iload 4, 2) := by decide +kernel
theorem dX12_slopeOf_76 : decode cX12_slopeOf 76 = .ok (.iconst 1, 1) := by decide +kernel
theorem dX12_slopeOf_77 : decode cX12_slopeOf 77 = .ok (.isub, 1) := by decide +kernel
theorem dX12_slopeOf_78 : decode cX12_slopeOf 78 = .ok (.if_icmp .ne 7, 3) := by decide +kernel
theorem dX12_slopeOf_81 : decode cX12_slopeOf 81 = .ok (.iconst 1, 1) := by decide +kernel
theorem dX12_slopeOf_82 : decode cX12_slopeOf 82 = .ok (.goto 4, 3) := by decide +kernel
theorem dX12_slopeOf_85 : decode cX12_slopeOf 85 = .ok (.iconst 0, 1) := by decide +kernel
theorem dX12_slopeOf_86 : decode cX12_slopeOf 86 = .ok (.istore 6, 2) := by decide +kernel
theorem dX12_slopeOf_88 : decode cX12_slopeOf 88 = .ok (.iload 5, 2) := by decide +kernel
theorem dX12_slopeOf_90 : decode cX12_slopeOf 90 = .ok (.tableswitch 86 2 4 #[26, 54, 61], 26) := by decide +kernel
theorem dX12_slopeOf_116 : decode cX12_slopeOf 116 = .ok (.aload_n 0, 1) := by decide +kernel
theorem dX12_slopeOf_117 : decode cX12_slopeOf 117 = .ok (.iload_n 1, 1) := by decide +kernel
theorem dX12_slopeOf_118 : decode cX12_slopeOf 118 = .ok (.iload_n 3, 1) := by decide +kernel
theorem dX12_slopeOf_119 : decode cX12_slopeOf 119 = .ok (.ifCond .eq 14, 3) := by decide +kernel
theorem dX12_slopeOf_122 : decode cX12_slopeOf 122 = .ok (.iload_n 2, 1) := by decide +kernel
theorem dX12_slopeOf_123 : decode cX12_slopeOf 123 = .ok (.iload 4, 2) := by decide +kernel
theorem dX12_slopeOf_125 : decode cX12_slopeOf 125 = .ok (.iconst 2, 1) := by decide +kernel
theorem dX12_slopeOf_126 : decode cX12_slopeOf 126 = .ok (.isub, 1) := by decide +kernel
theorem dX12_slopeOf_127 : decode cX12_slopeOf 127 = .ok (.invokestatic 105, 3) := by decide +kernel
theorem dX12_slopeOf_130 : decode cX12_slopeOf 130 = .ok (.goto 10, 3) := by decide +kernel
theorem dX12_slopeOf_133 : decode cX12_slopeOf 133 = .ok (.iload_n 2, 1) := by decide +kernel
theorem dX12_slopeOf_134 : decode cX12_slopeOf 134 = .ok (.iconst 1, 1) := by decide +kernel
theorem dX12_slopeOf_135 : decode cX12_slopeOf 135 = .ok (.isub, 1) := by decide +kernel
theorem dX12_slopeOf_136 : decode cX12_slopeOf 136 = .ok (.iconst 0, 1) := by decide +kernel
theorem dX12_slopeOf_137 : decode cX12_slopeOf 137 = .ok (.invokestatic 112, 3) := by decide +kernel
theorem dX12_slopeOf_140 : decode cX12_slopeOf 140 = .ok (.invokevirtual 96, 3) := by decide +kernel
theorem dX12_slopeOf_143 : decode cX12_slopeOf 143 = .ok (.ireturn, 1) := by decide +kernel
theorem dX12_slopeOf_144 : decode cX12_slopeOf 144 = .ok (.aload_n 0, 1) := by decide +kernel
theorem dX12_slopeOf_145 : decode cX12_slopeOf 145 = .ok (.iload_n 1, 1) := by decide +kernel
theorem dX12_slopeOf_146 : decode cX12_slopeOf 146 = .ok (.iload_n 2, 1) := by decide +kernel
theorem dX12_slopeOf_147 : decode cX12_slopeOf 147 = .ok (.invokevirtual 99, 3) := by decide +kernel
theorem dX12_slopeOf_150 : decode cX12_slopeOf 150 = .ok (.ireturn, 1) := by decide +kernel
theorem dX12_slopeOf_151 : decode cX12_slopeOf 151 = .ok (.iload 6, 2) := by decide +kernel
theorem dX12_slopeOf_153 : decode cX12_slopeOf 153 = .ok (.ifCond .ne 12, 3) := by decide +kernel
theorem dX12_slopeOf_156 : decode cX12_slopeOf 156 = .ok (.aload_n 0, 1) := by decide +kernel
theorem dX12_slopeOf_157 : decode cX12_slopeOf 157 = .ok (.iload_n 1, 1) := by decide +kernel
theorem dX12_slopeOf_158 : decode cX12_slopeOf 158 = .ok (.iload_n 2, 1) := by decide +kernel
theorem dX12_slopeOf_159 : decode cX12_slopeOf 159 = .ok (.invokevirtual 115, 3) := by decide +kernel
theorem dX12_slopeOf_162 : decode cX12_slopeOf 162 = .ok (.ifCond .ne 7, 3) := by decide +kernel
theorem dX12_slopeOf_165 : decode cX12_slopeOf 165 = .ok (.iconst 0, 1) := by decide +kernel
theorem dX12_slopeOf_166 : decode cX12_slopeOf 166 = .ok (.goto 9, 3) := by decide +kernel
theorem dX12_slopeOf_169 : decode cX12_slopeOf 169 = .ok (.aload_n 0, 1) := by decide +kernel
theorem dX12_slopeOf_170 : decode cX12_slopeOf 170 = .ok (.iload_n 1, 1) := by decide +kernel
theorem dX12_slopeOf_171 : decode cX12_slopeOf 171 = .ok (.iload_n 2, 1) := by decide +kernel
theorem dX12_slopeOf_172 : decode cX12_slopeOf 172 = .ok (.invokevirtual 99, 3) := by decide +kernel
theorem dX12_slopeOf_175 : decode cX12_slopeOf 175 = .ok (.ireturn, 1) := by decide +kernel
theorem dX12_slopeOf_176 : decode cX12_slopeOf 176 = .ok (.iload 6, 2) := by decide +kernel
theorem dX12_slopeOf_178 : decode cX12_slopeOf 178 = .ok (.ifCond .eq 7, 3) := by decide +kernel
theorem dX12_slopeOf_181 : decode cX12_slopeOf 181 = .ok (.iconst 0, 1) := by decide +kernel
theorem dX12_slopeOf_182 : decode cX12_slopeOf 182 = .ok (.goto 9, 3) := by decide +kernel
theorem dX12_slopeOf_185 : decode cX12_slopeOf 185 = .ok (.aload_n 0, 1) := by decide +kernel
theorem dX12_slopeOf_186 : decode cX12_slopeOf 186 = .ok (.iload_n 1, 1) := by decide +kernel
theorem dX12_slopeOf_187 : decode cX12_slopeOf 187 = .ok (.iload_n 2, 1) := by decide +kernel
theorem dX12_slopeOf_188 : decode cX12_slopeOf 188 = .ok (.invokevirtual 119, 3) := by decide +kernel
theorem dX12_slopeOf_191 : decode cX12_slopeOf 191 = .ok (.ireturn, 1) := by decide +kernel
theorem dX12_inside_0 : decode cX12_inside 0 = .ok (.iconst 0, 1) := by decide +kernel
theorem dX12_inside_1 : decode cX12_inside 1 = .ok (.istore_n 3, 1) := by decide +kernel
theorem dX12_inside_2 : decode cX12_inside 2 = .ok (.iload_n 3, 1) := by decide +kernel
theorem dX12_inside_3 : decode cX12_inside 3 = .ok (.aload_n 0, 1) := by decide +kernel
theorem dX12_inside_4 : decode cX12_inside 4 = .ok (.iload_n 1, 1) := by decide +kernel
theorem dX12_inside_5 : decode cX12_inside 5 = .ok (.invokevirtual 78, 3) := by decide +kernel
theorem dX12_inside_8 : decode cX12_inside 8 = .ok (.iconst 1, 1) := by decide +kernel
theorem dX12_inside_9 : decode cX12_inside 9 = .ok (.isub, 1) := by decide +kernel
theorem dX12_inside_10 : decode cX12_inside 10 = .ok (.if_icmp .ge 21, 3) := by decide +kernel
theorem dX12_inside_13 : decode cX12_inside 13 = .ok (.aload_n 0, 1) := by decide +kernel
theorem dX12_inside_14 : decode cX12_inside 14 = .ok (.iload_n 1, 1) := by decide +kernel
theorem dX12_inside_15 : decode cX12_inside 15 = .ok (.iload_n 3, 1) := by decide +kernel
theorem dX12_inside_16 : decode cX12_inside 16 = .ok (.iconst 1, 1) := by decide +kernel
theorem dX12_inside_17 : decode cX12_inside 17 = .ok (.iadd, 1) := by decide +kernel
theorem dX12_inside_18 : decode cX12_inside 18 = .ok (.invokevirtual 82, 3) := by decide +kernel
theorem dX12_inside_21 : decode cX12_inside 21 = .ok (.iload_n 2, 1) := by decide +kernel
theorem dX12_inside_22 : decode cX12_inside 22 = .ok (.if_icmp .gt 9, 3) := by decide +kernel
theorem dX12_inside_25 : decode cX12_inside 25 = .ok (.iinc 3 1, 3) := by decide +kernel
theorem dX12_inside_28 : decode cX12_inside 28 = .ok (.goto (-26), 3) := by decide +kernel
theorem dX12_inside_31 : decode cX12_inside 31 = .ok (.ldc2_w 91, 3) := by decide +kernel
theorem dX12_inside_34 : decode cX12_inside 34 = .ok (.aload_n 0, 1) := by decide +kernel
theorem dX12_inside_35 : decode cX12_inside 35 = .ok (.getfield 7, 3) := by decide +kernel
theorem dX12_inside_38 : decode cX12_inside 38 = .ok (.iload_n 1, 1) := by decide +kernel
theorem dX12_inside_39 : decode cX12_inside 39 = .ok (.bipush 28, 2) := by decide +kernel
theorem dX12_inside_41 : decode cX12_inside 41 = .ok (.iload_n 3, 1) := by decide +kernel
theorem dX12_inside_42 : decode cX12_inside 42 = .ok (.invokestatic 70, 3) := by decide +kernel
theorem dX12_inside_45 : decode cX12_inside 45 = .ok (.iaload, 1) := by decide +kernel
theorem dX12_inside_46 : decode cX12_inside 46 = .ok (.i2l, 1) := by decide +kernel
theorem dX12_inside_47 : decode cX12_inside 47 = .ok (.lmul, 1) := by decide +kernel
theorem dX12_inside_48 : decode cX12_inside 48 = .ok (.lstore 4, 2) := by decide +kernel
theorem dX12_inside_50 : decode cX12_inside 50 = .ok (.aload_n 0, 1) := by decide +kernel
theorem dX12_inside_51 : decode cX12_inside 51 = .ok (.iload_n 1, 1) := by decide +kernel
theorem dX12_inside_52 : decode cX12_inside 52 = .ok (.iload_n 3, 1) := by decide +kernel
theorem dX12_inside_53 : decode cX12_inside 53 = .ok (.invokevirtual 82, 3) := by decide +kernel
theorem dX12_inside_56 : decode cX12_inside 56 = .ok (.iload_n 2, 1) := by decide +kernel
theorem dX12_inside_57 : decode cX12_inside 57 = .ok (.if_icmp .eq 20, 3) := by decide +kernel
theorem dX12_inside_60 : decode cX12_inside 60 = .ok (.aload_n 0, 1) := by decide +kernel
theorem dX12_inside_61 : decode cX12_inside 61 = .ok (.getfield 7, 3) := by decide +kernel
theorem dX12_inside_64 : decode cX12_inside 64 = .ok (.iload_n 1, 1) := by decide +kernel
theorem dX12_inside_65 : decode cX12_inside 65 = .ok (.bipush 52, 2) := by decide +kernel
theorem dX12_inside_67 : decode cX12_inside 67 = .ok (.iload_n 3, 1) := by decide +kernel
theorem dX12_inside_68 : decode cX12_inside 68 = .ok (.invokestatic 70, 3) := by decide +kernel
theorem dX12_inside_71 : decode cX12_inside 71 = .ok (.iaload, 1) := by decide +kernel
theorem dX12_inside_72 : decode cX12_inside 72 = .ok (.bipush 6, 2) := by decide +kernel
theorem dX12_inside_74 : decode cX12_inside 74 = .ok (.if_icmp .ne 7, 3) := by decide +kernel
theorem dX12_inside_77 : decode cX12_inside 77 = .ok (.lload 4, 2) := by decide +kernel
theorem dX12_inside_79 : decode cX12_inside 79 = .ok (.l2i, 1) := by decide +kernel
theorem dX12_inside_80 : decode cX12_inside 80 = .ok (.ireturn, 1) := by decide +kernel
theorem dX12_inside_81 : decode cX12_inside 81 = .ok (.ldc2_w 91, 3) := by decide +kernel
theorem dX12_inside_84 : decode cX12_inside 84 = .ok (.aload_n 0, 1) := by decide +kernel
theorem dX12_inside_85 : decode cX12_inside 85 = .ok (.getfield 7, 3) := by decide +kernel
theorem dX12_inside_88 : decode cX12_inside 88 = .ok (.iload_n 1, 1) := by decide +kernel
theorem dX12_inside_89 : decode cX12_inside 89 = .ok (.bipush 28, 2) := by decide +kernel
theorem dX12_inside_91 : decode cX12_inside 91 = .ok (.iload_n 3, 1) := by decide +kernel
theorem dX12_inside_92 : decode cX12_inside 92 = .ok (.iconst 1, 1) := by decide +kernel
theorem dX12_inside_93 : decode cX12_inside 93 = .ok (.iadd, 1) := by decide +kernel
theorem dX12_inside_94 : decode cX12_inside 94 = .ok (.invokestatic 70, 3) := by decide +kernel
theorem dX12_inside_97 : decode cX12_inside 97 = .ok (.iaload, 1) := by decide +kernel
theorem dX12_inside_98 : decode cX12_inside 98 = .ok (.i2l, 1) := by decide +kernel
theorem dX12_inside_99 : decode cX12_inside 99 = .ok (.lmul, 1) := by decide +kernel
theorem dX12_inside_100 : decode cX12_inside 100 = .ok (.lstore 6, 2) := by decide +kernel
theorem dX12_inside_102 : decode cX12_inside 102 = .ok (.aload_n 0, 1) := by decide +kernel
theorem dX12_inside_103 : decode cX12_inside 103 = .ok (.iload_n 1, 1) := by decide +kernel
theorem dX12_inside_104 : decode cX12_inside 104 = .ok (.iload_n 3, 1) := by decide +kernel
theorem dX12_inside_105 : decode cX12_inside 105 = .ok (.iconst 1, 1) := by decide +kernel
theorem dX12_inside_106 : decode cX12_inside 106 = .ok (.invokevirtual 122, 3) := by decide +kernel
theorem dX12_inside_109 : decode cX12_inside 109 = .ok (.i2l, 1) := by decide +kernel
theorem dX12_inside_110 : decode cX12_inside 110 = .ok (.lstore 8, 2) := by decide +kernel
theorem dX12_inside_112 : decode cX12_inside 112 = .ok (.aload_n 0, 1) := by decide +kernel
theorem dX12_inside_113 : decode cX12_inside 113 = .ok (.iload_n 1, 1) := by decide +kernel
theorem dX12_inside_114 : decode cX12_inside 114 = .ok (.iload_n 3, 1) := by decide +kernel
theorem dX12_inside_115 : decode cX12_inside 115 = .ok (.iconst 1, 1) := by decide +kernel
theorem dX12_inside_116 : decode cX12_inside 116 = .ok (.iadd, 1) := by decide +kernel
theorem dX12_inside_117 : decode cX12_inside 117 = .ok (.iconst 0, 1) := by decide +kernel
theorem dX12_inside_118 : decode cX12_inside 118 = .ok (.invokevirtual 122, 3) := by decide +kernel
theorem dX12_inside_121 : decode cX12_inside 121 = .ok (.i2l, 1) := by decide +kernel
theorem dX12_inside_122 : decode cX12_inside 122 = .ok (.lstore 10, 2) := by decide +kernel
theorem dX12_inside_124 : decode cX12_inside 124 = .ok (.aload_n 0, 1) := by decide +kernel
theorem dX12_inside_125 : decode cX12_inside 125 = .ok (.iload_n 1, 1) := by decide +kernel
theorem dX12_inside_126 : decode cX12_inside 126 = .ok (.iload_n 3, 1) := by decide +kernel
theorem dX12_inside_127 : decode cX12_inside 127 = .ok (.iconst 1, 1) := by decide +kernel
theorem dX12_inside_128 : decode cX12_inside 128 = .ok (.iadd, 1) := by decide +kernel
theorem dX12_inside_129 : decode cX12_inside 129 = .ok (.invokevirtual 82, 3) := by decide +kernel
theorem dX12_inside_132 : decode cX12_inside 132 = .ok (.aload_n 0, 1) := by decide +kernel
theorem dX12_inside_133 : decode cX12_inside 133 = .ok (.iload_n 1, 1) := by decide +kernel
theorem dX12_inside_134 : decode cX12_inside 134 = .ok (.iload_n 3, 1) := by decide +kernel
theorem dX12_inside_135 : decode cX12_inside 135 = .ok (.invokevirtual 82, 3) := by decide +kernel
theorem dX12_inside_138 : decode cX12_inside 138 = .ok (.isub, 1) := by decide +kernel
theorem dX12_inside_139 : decode cX12_inside 139 = .ok (.i2l, 1) := by decide +kernel
theorem dX12_inside_140 : decode cX12_inside 140 = .ok (.lstore 12, 2) := by decide +kernel
theorem dX12_inside_142 : decode cX12_inside 142 = .ok (.iload_n 2, 1) := by decide +kernel
theorem dX12_inside_143 : decode cX12_inside 143 = .ok (.aload_n 0, 1) := by decide +kernel
theorem dX12_inside_144 : decode cX12_inside 144 = .ok (.iload_n 1, 1) := by decide +kernel
theorem dX12_inside_145 : decode cX12_inside 145 = .ok (.iload_n 3, 1) := by decide +kernel
theorem dX12_inside_146 : decode cX12_inside 146 = .ok (.invokevirtual 82, 3) := by decide +kernel
theorem dX12_inside_149 : decode cX12_inside 149 = .ok (.isub, 1) := by decide +kernel
theorem dX12_inside_150 : decode cX12_inside 150 = .ok (.i2l, 1) := by decide +kernel
theorem dX12_inside_151 : decode cX12_inside 151 = .ok (.lstore 14, 2) := by decide +kernel
theorem dX12_inside_153 : decode cX12_inside 153 = .ok (.lload 4, 2) := by decide +kernel
theorem dX12_inside_155 : decode cX12_inside 155 = .ok (.ldc2_w 60, 3) := by decide +kernel
theorem dX12_inside_158 : decode cX12_inside 158 = .ok (.lload 14, 2) := by decide +kernel
theorem dX12_inside_160 : decode cX12_inside 160 = .ok (.lmul, 1) := by decide +kernel
theorem dX12_inside_161 : decode cX12_inside 161 = .ok (.lload 14, 2) := by decide +kernel
theorem dX12_inside_163 : decode cX12_inside 163 = .ok (.lmul, 1) := by decide +kernel
theorem dX12_inside_164 : decode cX12_inside 164 = .ok (.lload 14, 2) := by decide +kernel
theorem dX12_inside_166 : decode cX12_inside 166 = .ok (.lmul, 1) := by decide +kernel
theorem dX12_inside_167 : decode cX12_inside 167 = .ok (.ldc2_w 126, 3) := by decide +kernel
theorem dX12_inside_170 : decode cX12_inside 170 = .ok (.lload 14, 2) := by decide +kernel
theorem dX12_inside_172 : decode cX12_inside 172 = .ok (.lmul, 1) := by decide +kernel
theorem dX12_inside_173 : decode cX12_inside 173 = .ok (.lload 14, 2) := by decide +kernel
theorem dX12_inside_175 : decode cX12_inside 175 = .ok (.lmul, 1) := by decide +kernel
theorem dX12_inside_176 : decode cX12_inside 176 = .ok (.lload 12, 2) := by decide +kernel
theorem dX12_inside_178 : decode cX12_inside 178 = .ok (.lmul, 1) := by decide +kernel
theorem dX12_inside_179 : decode cX12_inside 179 = .ok (.lsub, 1) := by decide +kernel
theorem dX12_inside_180 : decode cX12_inside 180 = .ok (.lload 12, 2) := by decide +kernel
theorem dX12_inside_182 : decode cX12_inside 182 = .ok (.lload 12, 2) := by decide +kernel
theorem dX12_inside_184 : decode cX12_inside 184 = .ok (.lmul, 1) := by decide +kernel
theorem dX12_inside_185 : decode cX12_inside 185 = .ok (.lload 12, 2) := by decide +kernel
theorem dX12_inside_187 : decode cX12_inside 187 = .ok (.lmul, 1) := by decide +kernel
theorem dX12_inside_188 : decode cX12_inside 188 = .ok (.ladd, 1) := by decide +kernel
theorem dX12_inside_189 : decode cX12_inside 189 = .ok (.lmul, 1) := by decide +kernel
theorem dX12_inside_190 : decode cX12_inside 190 = .ok (.lload 6, 2) := by decide +kernel
theorem dX12_inside_192 : decode cX12_inside 192 = .ok (.ldc2_w 126, 3) := by decide +kernel
theorem dX12_inside_195 : decode cX12_inside 195 = .ok (.lload 14, 2) := by decide +kernel
theorem dX12_inside_197 : decode cX12_inside 197 = .ok (.lmul, 1) := by decide +kernel
theorem dX12_inside_198 : decode cX12_inside 198 = .ok (.lload 14, 2) := by decide +kernel
theorem dX12_inside_200 : decode cX12_inside 200 = .ok (.lmul, 1) := by decide +kernel
theorem dX12_inside_201 : decode cX12_inside 201 = .ok (.lload 12, 2) := by decide +kernel
theorem dX12_inside_203 : decode cX12_inside 203 = .ok (.lmul, 1) := by decide +kernel
theorem dX12_inside_204 : decode cX12_inside 204 = .ok (.ldc2_w 60, 3) := by decide +kernel
theorem dX12_inside_207 : decode cX12_inside 207 = .ok (.lload 14, 2) := by decide +kernel
theorem dX12_inside_209 : decode cX12_inside 209 = .ok (.lmul, 1) := by decide +kernel
theorem dX12_inside_210 : decode cX12_inside 210 = .ok (.lload 14, 2) := by decide +kernel
theorem dX12_inside_212 : decode cX12_inside 212 = .ok (.lmul, 1) := by decide +kernel
theorem dX12_inside_213 : decode cX12_inside 213 = .ok (.lload 14, 2) := by decide +kernel
theorem dX12_inside_215 : decode cX12_inside 215 = .ok (.lmul, 1) := by decide +kernel
theorem dX12_inside_216 : decode cX12_inside 216 = .ok (.lsub, 1) := by decide +kernel
theorem dX12_inside_217 : decode cX12_inside 217 = .ok (.lmul, 1) := by decide +kernel
theorem dX12_inside_218 : decode cX12_inside 218 = .ok (.ladd, 1) := by decide +kernel
theorem dX12_inside_219 : decode cX12_inside 219 = .ok (.lstore 16, 2) := by decide +kernel
theorem dX12_inside_221 : decode cX12_inside 221 = .ok (.lload 16, 2) := by decide +kernel
theorem dX12_inside_223 : decode cX12_inside 223 = .ok (.lload 12, 2) := by decide +kernel
theorem dX12_inside_225 : decode cX12_inside 225 = .ok (.lload 8, 2) := by decide +kernel
theorem dX12_inside_227 : decode cX12_inside 227 = .ok (.lmul, 1) := by decide +kernel
theorem dX12_inside_228 : decode cX12_inside 228 = .ok (.lload 14, 2) := by decide +kernel
theorem dX12_inside_230 : decode cX12_inside 230 = .ok (.lload 14, 2) := by decide +kernel
theorem dX12_inside_232 : decode cX12_inside 232 = .ok (.lmul, 1) := by decide +kernel
theorem dX12_inside_233 : decode cX12_inside 233 = .ok (.lload 14, 2) := by decide +kernel
theorem dX12_inside_235 : decode cX12_inside 235 = .ok (.lmul, 1) := by decide +kernel
theorem dX12_inside_236 : decode cX12_inside 236 = .ok (.ldc2_w 60, 3) := by decide +kernel
theorem dX12_inside_239 : decode cX12_inside 239 = .ok (.lload 14, 2) := by decide +kernel
theorem dX12_inside_241 : decode cX12_inside 241 = .ok (.lmul, 1) := by decide +kernel
theorem dX12_inside_242 : decode cX12_inside 242 = .ok (.lload 14, 2) := by decide +kernel
theorem dX12_inside_244 : decode cX12_inside 244 = .ok (.lmul, 1) := by decide +kernel
theorem dX12_inside_245 : decode cX12_inside 245 = .ok (.lload 12, 2) := by decide +kernel
theorem dX12_inside_247 : decode cX12_inside 247 = .ok (.lmul, 1) := by decide +kernel
theorem dX12_inside_248 : decode cX12_inside 248 = .ok (.lsub, 1) := by decide +kernel
theorem dX12_inside_249 : decode cX12_inside 249 = .ok (.lload 14, 2) := by decide +kernel
theorem dX12_inside_251 : decode cX12_inside 251 = .ok (.lload 12, 2) := by decide +kernel
theorem dX12_inside_253 : decode cX12_inside 253 = .ok (.lmul, 1) := by decide +kernel
theorem dX12_inside_254 : decode cX12_inside 254 = .ok (.lload 12, 2) := by decide +kernel
theorem dX12_inside_256 : decode cX12_inside 256 = .ok (.lmul, 1) := by decide +kernel
theorem dX12_inside_257 : decode cX12_inside 257 = .ok (.ladd, 1) := by decide +kernel
theorem dX12_inside_258 : decode cX12_inside 258 = .ok (.lmul, 1) := by decide +kernel
theorem dX12_inside_259 : decode cX12_inside 259 = .ok (.lload 12, 2) := by decide +kernel
theorem dX12_inside_261 : decode cX12_inside 261 = .ok (.lload 10, 2) := by decide +kernel
theorem dX12_inside_263 : decode cX12_inside 263 = .ok (.lmul, 1) := by decide +kernel
theorem dX12_inside_264 : decode cX12_inside 264 = .ok (.lload 14, 2) := by decide +kernel
theorem dX12_inside_266 : decode cX12_inside 266 = .ok (.lload 14, 2) := by decide +kernel
theorem dX12_inside_268 : decode cX12_inside 268 = .ok (.lmul, 1) := by decide +kernel
theorem dX12_inside_269 : decode cX12_inside 269 = .ok (.lload 14, 2) := by decide +kernel
theorem dX12_inside_271 : decode cX12_inside 271 = .ok (.lmul, 1) := by decide +kernel
theorem dX12_inside_272 : decode cX12_inside 272 = .ok (.lload 14, 2) := by decide +kernel
theorem dX12_inside_274 : decode cX12_inside 274 = .ok (.lload 14, 2) := by decide +kernel
theorem dX12_inside_276 : decode cX12_inside 276 = .ok (.lmul, 1) := by decide +kernel
theorem dX12_inside_277 : decode cX12_inside 277 = .ok (.lload 12, 2) := by decide +kernel
theorem dX12_inside_279 : decode cX12_inside 279 = .ok (.lmul, 1) := by decide +kernel
theorem dX12_inside_280 : decode cX12_inside 280 = .ok (.lsub, 1) := by decide +kernel
theorem dX12_inside_281 : decode cX12_inside 281 = .ok (.lmul, 1) := by decide +kernel
theorem dX12_inside_282 : decode cX12_inside 282 = .ok (.ladd, 1) := by decide +kernel
theorem dX12_inside_283 : decode cX12_inside 283 = .ok (.ladd, 1) := by decide +kernel
theorem dX12_inside_284 : decode cX12_inside 284 = .ok (.lstore 16, 2) := by decide +kernel
theorem dX12_inside_286 : decode cX12_inside 286 = .ok (.lload 16, 2) := by decide +kernel
theorem dX12_inside_288 : decode cX12_inside 288 = .ok (.lload 12, 2) := by decide +kernel
theorem dX12_inside_290 : decode cX12_inside 290 = .ok (.lload 12, 2) := by decide +kernel
theorem dX12_inside_292 : decode cX12_inside 292 = .ok (.lmul, 1) := by decide +kernel
theorem dX12_inside_293 : decode cX12_inside 293 = .ok (.lload 12, 2) := by decide +kernel
theorem dX12_inside_295 : decode cX12_inside 295 = .ok (.lmul, 1) := by decide +kernel
theorem dX12_inside_296 : decode cX12_inside 296 = .ok (.invokestatic 93, 3) := by decide +kernel
theorem dX12_inside_299 : decode cX12_inside 299 = .ok (.l2i, 1) := by decide +kernel
theorem dX12_inside_300 : decode cX12_inside 300 = .ok (.ireturn, 1) := by decide +kernel
theorem dX12_valueAt_0 : decode cX12_valueAt 0 = .ok (.aload_n 0, 1) := by decide +kernel
theorem dX12_valueAt_1 : decode cX12_valueAt 1 = .ok (.iload_n 1, 1) := by decide +kernel
theorem dX12_valueAt_2 : decode cX12_valueAt 2 = .ok (.invokevirtual 78, 3) := by decide +kernel
theorem dX12_valueAt_5 : decode cX12_valueAt 5 = .ok (.istore_n 3, 1) := by decide +kernel
theorem dX12_valueAt_6 : decode cX12_valueAt 6 = .ok (.aload_n 0, 1) := by decide +kernel
theorem dX12_valueAt_7 : decode cX12_valueAt 7 = .ok (.iload_n 1, 1) := by decide +kernel
theorem dX12_valueAt_8 : decode cX12_valueAt 8 = .ok (.iconst 0, 1) := by decide +kernel
theorem dX12_valueAt_9 : decode cX12_valueAt 9 = .ok (.invokevirtual 82, 3) := by decide +kernel
theorem dX12_valueAt_12 : decode cX12_valueAt 12 = .ok (.istore 4, 2) := by decide +kernel
theorem dX12_valueAt_14 : decode cX12_valueAt 14 = .ok (.aload_n 0, 1) := by decide +kernel
theorem dX12_valueAt_15 : decode cX12_valueAt 15 = .ok (.iload_n 1, 1) := by decide +kernel
theorem dX12_valueAt_16 : decode cX12_valueAt 16 = .ok (.iload_n 3, 1) := by decide +kernel
theorem dX12_valueAt_17 : decode cX12_valueAt 17 = .ok (.iconst 1, 1) := by decide +kernel
theorem dX12_valueAt_18 : decode cX12_valueAt 18 = .ok (.isub, 1) := by decide +kernel
theorem dX12_valueAt_19 : decode cX12_valueAt 19 = .ok (.invokevirtual 82, 3) := by decide +kernel
theorem dX12_valueAt_22 : decode cX12_valueAt 22 = .ok (.istore 5, 2) := by decide +kernel
theorem dX12_valueAt_24 : decode cX12_valueAt 24 = .ok (.iload_n 2, 1) := by decide +kernel
theorem dX12_valueAt_25 : decode cX12_valueAt 25 = .ok (.iload 4, 2) := by decide +kernel
theorem dX12_valueAt_27 : decode cX12_valueAt 27 = .ok (.iload 5, 2) := by decide +kernel
theorem dX12_valueAt_29 : decode cX12_valueAt 29 = .ok (.invokestatic 66, 3) := by decide +kernel
theorem dX12_valueAt_32 : decode cX12_valueAt 32 = .ok (.ifCond .eq 10, 3) := by decide +kernel
theorem dX12_valueAt_35 : decode cX12_valueAt 35 = .ok (.aload_n 0, 1) := by decide +kernel
theorem dX12_valueAt_36 : decode cX12_valueAt 36 = .ok (.iload_n 1, 1) := by decide +kernel
theorem dX12_valueAt_37 : decode cX12_valueAt 37 = .ok (.iload_n 2, 1) := by decide +kernel
theorem dX12_valueAt_38 : decode cX12_valueAt 38 = .ok (.invokevirtual 128, 3) := by decide +kernel
theorem dX12_valueAt_41 : decode cX12_valueAt 41 = .ok (.ireturn, 1) := by decide +kernel
theorem dX12_valueAt_42 : decode cX12_valueAt 42 = .ok (.iload_n 2, 1) := by decide +kernel
theorem dX12_valueAt_43 : decode cX12_valueAt 43 = .ok (.iload 4, 2) := by decide +kernel
theorem dX12_valueAt_45 : decode cX12_valueAt 45 = .ok (.if_icmp .ge 7, 3) := by decide +kernel
theorem dX12_valueAt_48 : decode cX12_valueAt 48 = .ok (.iconst 0, 1) := by decide +kernel
theorem dX12_valueAt_49 : decode cX12_valueAt 49 = .ok (.goto 6, 3) := by decide +kernel
theorem dX12_valueAt_52 : decode cX12_valueAt 52 = .ok (.iload_n 3, 1) := by decide +kernel
theorem dX12_valueAt_53 : decode cX12_valueAt 53 = .ok (.iconst 1, 1) := by decide +kernel
theorem dX12_valueAt_54 : decode cX12_valueAt 54 = .ok (.isub, 1) := by decide +kernel
theorem dX12_valueAt_55 : decode cX12_valueAt 55 = .ok (.istore 6, 2) := by decide +kernel
theorem dX12_valueAt_57 : decode cX12_valueAt 57 = .ok (.iload_n 3, 1) := by decide +kernel
theorem dX12_valueAt_58 : decode cX12_valueAt 58 = .ok (.iconst 1, 1) := by decide +kernel
theorem dX12_valueAt_59 : decode cX12_valueAt 59 = .ok (.if_icmp .ne 7, 3) := by decide +kernel
theorem dX12_valueAt_62 : decode cX12_valueAt 62 = .ok (.iconst 0, 1) := by decide +kernel
theorem dX12_valueAt_63 : decode cX12_valueAt 63 = .ok (.goto 24, 3) := by decide +kernel
theorem dX12_valueAt_66 : decode cX12_valueAt 66 = .ok (.aload_n 0, 1) := by decide +kernel
theorem dX12_valueAt_67 : decode cX12_valueAt 67 = .ok (.getfield 7, 3) := by decide +kernel
theorem dX12_valueAt_70 : decode cX12_valueAt 70 = .ok (.iload_n 1, 1) := by decide +kernel
theorem dX12_valueAt_71 : decode cX12_valueAt 71 = .ok (.iload_n 2, 1) := by decide +kernel
theorem dX12_valueAt_72 : decode cX12_valueAt 72 = .ok (.iload 4, 2) := by decide +kernel
theorem dX12_valueAt_74 : decode cX12_valueAt 74 = .ok (.if_icmp .ge 7, 3) := by decide +kernel
theorem dX12_valueAt_77 : decode cX12_valueAt 77 = .ok (.iconst 1, 1) := by decide +kernel
theorem dX12_valueAt_78 : decode cX12_valueAt 78 = .ok (.goto 4, 3) := by decide +kernel
theorem dX12_valueAt_81 : decode cX12_valueAt 81 = .ok (.iconst 2, 1) := by decide +kernel
theorem dX12_valueAt_82 : decode cX12_valueAt 82 = .ok (.iconst 0, 1) := by decide +kernel
theorem dX12_valueAt_83 : decode cX12_valueAt 83 = .ok (.invokestatic 70, 3) := by decide +kernel
theorem dX12_valueAt_86 : decode cX12_valueAt 86 = .ok (.iaload, 1) := by decide +kernel
theorem dX12_valueAt_87 : decode cX12_valueAt 87 = .ok (.istore 7, 2) := by decide +kernel
theorem dX12_valueAt_89 : decode cX12_valueAt 89 = .ok (.iload 5, 2) := by decide +kernel
theorem dX12_valueAt_91 : decode cX12_valueAt 91 = .ok (.iload 4, 2) := by decide +kernel
theorem dX12_valueAt_93 : decode cX12_valueAt 93 = .ok (.isub, 1) := by decide +kernel
theorem dX12_valueAt_94 : decode cX12_valueAt 94 = .ok (.istore 8, 2) := by decide +kernel
theorem dX12_valueAt_96 : decode cX12_valueAt 96 = .ok (.iload 8, 2) := by decide +kernel
theorem dX12_valueAt_98 : decode cX12_valueAt 98 = .ok (.ifCond .ne 7, 3) := by decide +kernel
theorem dX12_valueAt_101 : decode cX12_valueAt 101 = .ok (.iconst 0, 1) := by decide +kernel
theorem dX12_valueAt_102 : decode cX12_valueAt 102 = .ok (.goto 15, 3) := by decide +kernel
theorem dX12_valueAt_105 : decode cX12_valueAt 105 = .ok (.iload_n 2, 1) := by decide +kernel
theorem dX12_valueAt_106 : decode cX12_valueAt 106 = .ok (.iload 4, 2) := by decide +kernel
theorem dX12_valueAt_108 : decode cX12_valueAt 108 = .ok (.isub, 1) := by decide +kernel
theorem dX12_valueAt_109 : decode cX12_valueAt 109 = .ok (.i2l, 1) := by decide +kernel
theorem dX12_valueAt_110 : decode cX12_valueAt 110 = .ok (.iload 8, 2) := by decide +kernel
theorem dX12_valueAt_112 : decode cX12_valueAt 112 = .ok (.i2l, 1) := by decide +kernel
theorem dX12_valueAt_113 : decode cX12_valueAt 113 = .ok (.invokestatic 62, 3) := by decide +kernel
theorem dX12_valueAt_116 : decode cX12_valueAt 116 = .ok (.l2i, 1) := by decide +kernel
theorem dX12_valueAt_117 : decode cX12_valueAt 117 = .ok (.istore 9, 2) := by decide +kernel
theorem dX12_valueAt_119 : decode cX12_valueAt 119 = .ok (.iload 7, 2) := by decide +kernel
theorem dX12_valueAt_121 : decode cX12_valueAt 121 = .ok (.tableswitch 166 0 3 #[31, 48, 94, 107], 31) := by decide +kernel
theorem dX12_valueAt_152 : decode cX12_valueAt 152 = .ok (.bipush 64, 2) := by decide +kernel
theorem dX12_valueAt_154 : decode cX12_valueAt 154 = .ok (.aload_n 0, 1) := by decide +kernel
theorem dX12_valueAt_155 : decode cX12_valueAt 155 = .ok (.getfield 7, 3) := by decide +kernel
theorem dX12_valueAt_158 : decode cX12_valueAt 158 = .ok (.iload_n 1, 1) := by decide +kernel
theorem dX12_valueAt_159 : decode cX12_valueAt 159 = .ok (.bipush 28, 2) := by decide +kernel
theorem dX12_valueAt_161 : decode cX12_valueAt 161 = .ok (.iload 6, 2) := by decide +kernel
theorem dX12_valueAt_163 : decode cX12_valueAt 163 = .ok (.invokestatic 70, 3) := by decide +kernel
theorem dX12_valueAt_166 : decode cX12_valueAt 166 = .ok (.iaload, 1) := by decide +kernel
theorem dX12_valueAt_167 : decode cX12_valueAt 167 = .ok (.imul, 1) := by decide +kernel
theorem dX12_valueAt_168 : decode cX12_valueAt 168 = .ok (.ireturn, 1) := by decide +kernel
theorem dX12_valueAt_169 : decode cX12_valueAt 169 = .ok (.bipush 64, 2) := by decide +kernel
theorem dX12_valueAt_171 : decode cX12_valueAt 171 = .ok (.aload_n 0, 1) := by decide +kernel
theorem dX12_valueAt_172 : decode cX12_valueAt 172 = .ok (.getfield 7, 3) := by decide +kernel
theorem dX12_valueAt_175 : decode cX12_valueAt 175 = .ok (.iload_n 1, 1) := by decide +kernel
theorem dX12_valueAt_176 : decode cX12_valueAt 176 = .ok (.bipush 28, 2) := by decide +kernel
theorem dX12_valueAt_178 : decode cX12_valueAt 178 = .ok (.iload 6, 2) := by decide +kernel
theorem dX12_valueAt_180 : decode cX12_valueAt 180 = .ok (.invokestatic 70, 3) := by decide +kernel
theorem dX12_valueAt_183 : decode cX12_valueAt 183 = .ok (.iaload, 1) := by decide +kernel
theorem dX12_valueAt_184 : decode cX12_valueAt 184 = .ok (.imul, 1) := by decide +kernel
theorem dX12_valueAt_185 : decode cX12_valueAt 185 = .ok (.aload_n 0, 1) := by decide +kernel
theorem dX12_valueAt_186 : decode cX12_valueAt 186 = .ok (.iload_n 1, 1) := by decide +kernel
theorem dX12_valueAt_187 : decode cX12_valueAt 187 = .ok (.iload 6, 2) := by decide +kernel
theorem dX12_valueAt_189 : decode cX12_valueAt 189 = .ok (.iload_n 2, 1) := by decide +kernel
theorem dX12_valueAt_190 : decode cX12_valueAt 190 = .ok (.iload 5, 2) := by decide +kernel
theorem dX12_valueAt_192 : decode cX12_valueAt 192 = .ok (.if_icmp .le 7, 3) := by decide +kernel
theorem dX12_valueAt_195 : decode cX12_valueAt 195 = .ok (.iconst 1, 1) := by decide +kernel
theorem dX12_valueAt_196 : decode cX12_valueAt 196 = .ok (.goto 4, 3) := by decide +kernel
theorem dX12_valueAt_199 : decode cX12_valueAt 199 = .ok (.iconst 0, 1) := by decide +kernel
theorem dX12_valueAt_200 : decode cX12_valueAt 200 = .ok (.invokevirtual 122, 3) := by decide +kernel
theorem dX12_valueAt_203 : decode cX12_valueAt 203 = .ok (.iload_n 2, 1) := by decide +kernel
theorem dX12_valueAt_204 : decode cX12_valueAt 204 = .ok (.aload_n 0, 1) := by decide +kernel
theorem dX12_valueAt_205 : decode cX12_valueAt 205 = .ok (.iload_n 1, 1) := by decide +kernel
theorem dX12_valueAt_206 : decode cX12_valueAt 206 = .ok (.iload 6, 2) := by decide +kernel
theorem dX12_valueAt_208 : decode cX12_valueAt 208 = .ok (.invokevirtual 82, 3) := by decide +kernel
theorem dX12_valueAt_211 : decode cX12_valueAt 211 = .ok (.isub, 1) := by decide +kernel
theorem dX12_valueAt_212 : decode cX12_valueAt 212 = .ok (.imul, 1) := by decide +kernel
theorem dX12_valueAt_213 : decode cX12_valueAt 213 = .ok (.iadd, 1) := by decide +kernel
theorem dX12_valueAt_214 : decode cX12_valueAt 214 = .ok (.ireturn, 1) := by decide +kernel
theorem dX12_valueAt_215 : decode cX12_valueAt 215 = .ok (.aload_n 0, 1) := by decide +kernel
theorem dX12_valueAt_216 : decode cX12_valueAt 216 = .ok (.iload_n 1, 1) := by decide +kernel
theorem dX12_valueAt_217 : decode cX12_valueAt 217 = .ok (.iload_n 2, 1) := by decide +kernel
theorem dX12_valueAt_218 : decode cX12_valueAt 218 = .ok (.iload 9, 2) := by decide +kernel
theorem dX12_valueAt_220 : decode cX12_valueAt 220 = .ok (.iload 8, 2) := by decide +kernel
theorem dX12_valueAt_222 : decode cX12_valueAt 222 = .ok (.imul, 1) := by decide +kernel
theorem dX12_valueAt_223 : decode cX12_valueAt 223 = .ok (.isub, 1) := by decide +kernel
theorem dX12_valueAt_224 : decode cX12_valueAt 224 = .ok (.invokevirtual 128, 3) := by decide +kernel
theorem dX12_valueAt_227 : decode cX12_valueAt 227 = .ok (.ireturn, 1) := by decide +kernel
theorem dX12_valueAt_228 : decode cX12_valueAt 228 = .ok (.iload_n 2, 1) := by decide +kernel
theorem dX12_valueAt_229 : decode cX12_valueAt 229 = .ok (.iload 4, 2) := by decide +kernel
theorem dX12_valueAt_231 : decode cX12_valueAt 231 = .ok (.isub, 1) := by decide +kernel
theorem dX12_valueAt_232 : decode cX12_valueAt 232 = .ok (.iconst 2, 1) := by decide +kernel
theorem dX12_valueAt_233 : decode cX12_valueAt 233 = .ok (.iload 8, 2) := by decide +kernel
theorem dX12_valueAt_235 : decode cX12_valueAt 235 = .ok (.imul, 1) := by decide +kernel
theorem dX12_valueAt_236 : decode cX12_valueAt 236 = .ok (.iload_n 2, 1) := by decide +kernel
theorem dX12_valueAt_237 : decode cX12_valueAt 237 = .ok (.iload 4, 2) := by decide +kernel
theorem dX12_valueAt_239 : decode cX12_valueAt 239 = .ok (.isub, 1) := by decide +kernel
theorem dX12_valueAt_240 : decode cX12_valueAt 240 = .ok (.i2l, 1) := by decide +kernel
theorem dX12_valueAt_241 : decode cX12_valueAt 241 = .ok (.ldc2_w 60, 3) := by decide +kernel
theorem dX12_valueAt_244 : decode cX12_valueAt 244 = .ok (.iload 8, 2) := by decide +kernel
theorem dX12_valueAt_246 : decode cX12_valueAt 246 = .ok (.i2l, 1) := by decide +kernel
theorem dX12_valueAt_247 : decode cX12_valueAt 247 = .ok (.lmul, 1) := by decide +kernel
theorem dX12_valueAt_248 : decode cX12_valueAt 248 = .ok (.invokestatic 62, 3) := by decide +kernel
theorem dX12_valueAt_251 : decode cX12_valueAt 251 = .ok (.l2i, 1) := by decide +kernel
theorem dX12_valueAt_252 : decode cX12_valueAt 252 = .ok (.imul, 1) := by decide +kernel
theorem dX12_valueAt_253 : decode cX12_valueAt 253 = .ok (.isub, 1) := by decide +kernel
theorem dX12_valueAt_254 : decode cX12_valueAt 254 = .ok (.istore 10, 2) := by decide +kernel
theorem dX12_valueAt_256 : decode cX12_valueAt 256 = .ok (.aload_n 0, 1) := by decide +kernel
theorem dX12_valueAt_257 : decode cX12_valueAt 257 = .ok (.iload_n 1, 1) := by decide +kernel
theorem dX12_valueAt_258 : decode cX12_valueAt 258 = .ok (.iload 10, 2) := by decide +kernel
theorem dX12_valueAt_260 : decode cX12_valueAt 260 = .ok (.iload 8, 2) := by decide +kernel
theorem dX12_valueAt_262 : decode cX12_valueAt 262 = .ok (.if_icmp .gt 11, 3) := by decide +kernel
theorem dX12_valueAt_265 : decode cX12_valueAt 265 = .ok (.iload 4, 2) := by decide +kernel
theorem dX12_valueAt_267 : decode cX12_valueAt 267 = .ok (.iload 10, 2) := by decide +kernel
theorem dX12_valueAt_269 : decode cX12_valueAt 269 = .ok (.iadd, 1) := by decide +kernel
theorem dX12_valueAt_270 : decode cX12_valueAt 270 = .ok (.goto 13, 3) := by decide +kernel
theorem dX12_valueAt_273 : decode cX12_valueAt 273 = .ok (.iload 4, 2) := by decide +kernel
theorem dX12_valueAt_275 : decode cX12_valueAt 275 = .ok (.iconst 2, 1) := by decide +kernel
theorem dX12_valueAt_276 : decode cX12_valueAt 276 = .ok (.iload 8, 2) := by decide +kernel
theorem dX12_valueAt_278 : decode cX12_valueAt 278 = .ok (.imul, 1) := by decide +kernel
theorem dX12_valueAt_279 : decode cX12_valueAt 279 = .ok (.iadd, 1) := by decide +kernel
theorem dX12_valueAt_280 : decode cX12_valueAt 280 = .ok (.iload 10, 2) := by decide +kernel
theorem dX12_valueAt_282 : decode cX12_valueAt 282 = .ok (.isub, 1) := by decide +kernel
theorem dX12_valueAt_283 : decode cX12_valueAt 283 = .ok (.invokevirtual 128, 3) := by decide +kernel
theorem dX12_valueAt_286 : decode cX12_valueAt 286 = .ok (.ireturn, 1) := by decide +kernel
theorem dX12_valueAt_287 : decode cX12_valueAt 287 = .ok (.aload_n 0, 1) := by decide +kernel
theorem dX12_valueAt_288 : decode cX12_valueAt 288 = .ok (.iload_n 1, 1) := by decide +kernel
theorem dX12_valueAt_289 : decode cX12_valueAt 289 = .ok (.iload_n 2, 1) := by decide +kernel
theorem dX12_valueAt_290 : decode cX12_valueAt 290 = .ok (.iload 9, 2) := by decide +kernel
theorem dX12_valueAt_292 : decode cX12_valueAt 292 = .ok (.iload 8, 2) := by decide +kernel
theorem dX12_valueAt_294 : decode cX12_valueAt 294 = .ok (.imul, 1) := by decide +kernel
theorem dX12_valueAt_295 : decode cX12_valueAt 295 = .ok (.isub, 1) := by decide +kernel
theorem dX12_valueAt_296 : decode cX12_valueAt 296 = .ok (.invokevirtual 128, 3) := by decide +kernel
theorem dX12_valueAt_299 : decode cX12_valueAt 299 = .ok (.iload 9, 2) := by decide +kernel
theorem dX12_valueAt_301 : decode cX12_valueAt 301 = .ok (.bipush 64, 2) := by decide +kernel
theorem dX12_valueAt_303 : decode cX12_valueAt 303 = .ok (.imul, 1) := by decide +kernel
theorem dX12_valueAt_304 : decode cX12_valueAt 304 = .ok (.aload_n 0, 1) := by decide +kernel
theorem dX12_valueAt_305 : decode cX12_valueAt 305 = .ok (.getfield 7, 3) := by decide +kernel
theorem dX12_valueAt_308 : decode cX12_valueAt 308 = .ok (.iload_n 1, 1) := by decide +kernel
theorem dX12_valueAt_309 : decode cX12_valueAt 309 = .ok (.bipush 28, 2) := by decide +kernel
theorem dX12_valueAt_311 : decode cX12_valueAt 311 = .ok (.iload_n 3, 1) := by decide +kernel
theorem dX12_valueAt_312 : decode cX12_valueAt 312 = .ok (.iconst 1, 1) := by decide +kernel
theorem dX12_valueAt_313 : decode cX12_valueAt 313 = .ok (.isub, 1) := by decide +kernel
theorem dX12_valueAt_314 : decode cX12_valueAt 314 = .ok (.invokestatic 70, 3) := by decide +kernel
theorem dX12_valueAt_317 : decode cX12_valueAt 317 = .ok (.iaload, 1) := by decide +kernel
theorem dX12_valueAt_318 : decode cX12_valueAt 318 = .ok (.aload_n 0, 1) := by decide +kernel
theorem dX12_valueAt_319 : decode cX12_valueAt 319 = .ok (.getfield 7, 3) := by decide +kernel
theorem dX12_valueAt_322 : decode cX12_valueAt 322 = .ok (.iload_n 1, 1) := by decide +kernel
theorem dX12_valueAt_323 : decode cX12_valueAt 323 = .ok (.bipush 28, 2) := by decide +kernel
theorem dX12_valueAt_325 : decode cX12_valueAt 325 = .ok (.iconst 0, 1) := by decide +kernel
theorem dX12_valueAt_326 : decode cX12_valueAt 326 = .ok (.invokestatic 70, 3) := by decide +kernel
theorem dX12_valueAt_329 : decode cX12_valueAt 329 = .ok (.iaload, 1) := by decide +kernel
theorem dX12_valueAt_330 : decode cX12_valueAt 330 = .ok (.isub, 1) := by decide +kernel
theorem dX12_valueAt_331 : decode cX12_valueAt 331 = .ok (.imul, 1) := by decide +kernel
theorem dX12_valueAt_332 : decode cX12_valueAt 332 = .ok (.iadd, 1) := by decide +kernel
theorem dX12_valueAt_333 : decode cX12_valueAt 333 = .ok (.ireturn, 1) := by decide +kernel
theorem dX12_value_0 : decode cX12_value 0 = .ok (.iload_n 1, 1) := by decide +kernel
theorem dX12_value_1 : decode cX12_value 1 = .ok (.invokestatic 74, 3) := by decide +kernel
theorem dX12_value_4 : decode cX12_value 4 = .ok (.ifCond .ne 6, 3) := by decide +kernel
theorem dX12_value_7 : decode cX12_value 7 = .ok (.ldc 131, 2) := by decide +kernel
theorem dX12_value_9 : decode cX12_value 9 = .ok (.ireturn, 1) := by decide +kernel
theorem dX12_value_10 : decode cX12_value 10 = .ok (.iload_n 2, 1) := by decide +kernel
theorem dX12_value_11 : decode cX12_value 11 = .ok (.iconst 0, 1) := by decide +kernel
theorem dX12_value_12 : decode cX12_value 12 = .ok (.sipush 960, 3) := by decide +kernel
theorem dX12_value_15 : decode cX12_value 15 = .ok (.invokestatic 66, 3) := by decide +kernel
theorem dX12_value_18 : decode cX12_value 18 = .ok (.ifCond .ne 6, 3) := by decide +kernel
theorem dX12_value_21 : decode cX12_value 21 = .ok (.ldc 132, 2) := by decide +kernel
theorem dX12_value_23 : decode cX12_value 23 = .ok (.ireturn, 1) := by decide +kernel
theorem dX12_value_24 : decode cX12_value 24 = .ok (.aload_n 0, 1) := by decide +kernel
theorem dX12_value_25 : decode cX12_value 25 = .ok (.iload_n 1, 1) := by decide +kernel
theorem dX12_value_26 : decode cX12_value 26 = .ok (.invokevirtual 78, 3) := by decide +kernel
theorem dX12_value_29 : decode cX12_value 29 = .ok (.ifCond .ne 8, 3) := by decide +kernel
theorem dX12_value_32 : decode cX12_value 32 = .ok (.ldc 90, 2) := by decide +kernel
theorem dX12_value_34 : decode cX12_value 34 = .ok (.goto 9, 3) := by decide +kernel
theorem dX12_value_37 : decode cX12_value 37 = .ok (.aload_n 0, 1) := by decide +kernel
theorem dX12_value_38 : decode cX12_value 38 = .ok (.iload_n 1, 1) := by decide +kernel
theorem dX12_value_39 : decode cX12_value 39 = .ok (.iload_n 2, 1) := by decide +kernel
theorem dX12_value_40 : decode cX12_value 40 = .ok (.invokevirtual 133, 3) := by decide +kernel
theorem dX12_value_43 : decode cX12_value 43 = .ok (.ireturn, 1) := by decide +kernel
theorem dX12_isRange_0 : decode cX12_isRange 0 = .ok (.iload_n 1, 1) := by decide +kernel
theorem dX12_isRange_1 : decode cX12_isRange 1 = .ok (.invokestatic 74, 3) := by decide +kernel
theorem dX12_isRange_4 : decode cX12_isRange 4 = .ok (.ifCond .eq 37, 3) := by decide +kernel
theorem dX12_isRange_7 : decode cX12_isRange 7 = .ok (.iload_n 2, 1) := by decide +kernel
theorem dX12_isRange_8 : decode cX12_isRange 8 = .ok (.iconst 0, 1) := by decide +kernel
theorem dX12_isRange_9 : decode cX12_isRange 9 = .ok (.sipush 960, 3) := by decide +kernel
theorem dX12_isRange_12 : decode cX12_isRange 12 = .ok (.invokestatic 66, 3) := by decide +kernel
theorem dX12_isRange_15 : decode cX12_isRange 15 = .ok (.ifCond .eq 26, 3) := by decide +kernel
theorem dX12_isRange_18 : decode cX12_isRange 18 = .ok (.iload_n 3, 1) := by decide +kernel
theorem dX12_isRange_19 : decode cX12_isRange 19 = .ok (.iload_n 2, 1) := by decide +kernel
theorem dX12_isRange_20 : decode cX12_isRange 20 = .ok (.sipush 960, 3) := by decide +kernel
theorem dX12_isRange_23 : decode cX12_isRange 23 = .ok (.invokestatic 66, 3) := by decide +kernel
theorem dX12_isRange_26 : decode cX12_isRange 26 = .ok (.ifCond .eq 15, 3) := by decide +kernel
theorem dX12_isRange_29 : decode cX12_isRange 29 = .ok (.aload_n 0, 1) := by decide +kernel
theorem dX12_isRange_30 : decode cX12_isRange 30 = .ok (.iload_n 1, 1) := by decide +kernel
theorem dX12_isRange_31 : decode cX12_isRange 31 = .ok (.invokevirtual 78, 3) := by decide +kernel
theorem dX12_isRange_34 : decode cX12_isRange 34 = .ok (.ifCond .le 7, 3) := by decide +kernel
theorem dX12_isRange_37 : decode cX12_isRange 37 = .ok (.iconst 1, 1) := by decide +kernel
theorem dX12_isRange_38 : decode cX12_isRange 38 = .ok (.goto 4, 3) := by decide +kernel
theorem dX12_isRange_41 : decode cX12_isRange 41 = .ok (.iconst 0, 1) := by decide +kernel
theorem dX12_isRange_42 : decode cX12_isRange 42 = .ok (.ireturn, 1) := by decide +kernel
theorem dX12_units_0 : decode cX12_units 0 = .ok (.aload_n 0, 1) := by decide +kernel
theorem dX12_units_1 : decode cX12_units 1 = .ok (.iload_n 1, 1) := by decide +kernel
theorem dX12_units_2 : decode cX12_units 2 = .ok (.iload_n 2, 1) := by decide +kernel
theorem dX12_units_3 : decode cX12_units 3 = .ok (.iload_n 2, 1) := by decide +kernel
theorem dX12_units_4 : decode cX12_units 4 = .ok (.invokevirtual 136, 3) := by decide +kernel
theorem dX12_units_7 : decode cX12_units 7 = .ok (.ifCond .eq 16, 3) := by decide +kernel
theorem dX12_units_10 : decode cX12_units 10 = .ok (.aload_n 0, 1) := by decide +kernel
theorem dX12_units_11 : decode cX12_units 11 = .ok (.iload_n 1, 1) := by decide +kernel
theorem dX12_units_12 : decode cX12_units 12 = .ok (.iload_n 2, 1) := by decide +kernel
theorem dX12_units_13 : decode cX12_units 13 = .ok (.invokevirtual 133, 3) := by decide +kernel
theorem dX12_units_16 : decode cX12_units 16 = .ok (.i2f, 1) := by decide +kernel
theorem dX12_units_17 : decode cX12_units 17 = .ok (.ldc 139, 2) := by decide +kernel
theorem dX12_units_19 : decode cX12_units 19 = .ok (.fdiv, 1) := by decide +kernel
theorem dX12_units_20 : decode cX12_units 20 = .ok (.goto 4, 3) := by decide +kernel
theorem dX12_units_23 : decode cX12_units 23 = .ok (.fconst 0, 1) := by decide +kernel
theorem dX12_units_24 : decode cX12_units 24 = .ok (.freturn, 1) := by decide +kernel
theorem dX12_mean_0 : decode cX12_mean 0 = .ok (.aload_n 0, 1) := by decide +kernel
theorem dX12_mean_1 : decode cX12_mean 1 = .ok (.iload_n 1, 1) := by decide +kernel
theorem dX12_mean_2 : decode cX12_mean 2 = .ok (.iload_n 2, 1) := by decide +kernel
theorem dX12_mean_3 : decode cX12_mean 3 = .ok (.iload_n 3, 1) := by decide +kernel
theorem dX12_mean_4 : decode cX12_mean 4 = .ok (.invokevirtual 136, 3) := by decide +kernel
theorem dX12_mean_7 : decode cX12_mean 7 = .ok (.ifCond .ne 5, 3) := by decide +kernel
theorem dX12_mean_10 : decode cX12_mean 10 = .ok (.dconst 0, 1) := by decide +kernel
theorem dX12_mean_11 : decode cX12_mean 11 = .ok (.dreturn, 1) := by decide +kernel
theorem dX12_mean_12 : decode cX12_mean 12 = .ok (.lconst 0, 1) := by decide +kernel
theorem dX12_mean_13 : decode cX12_mean 13 = .ok (.lstore 4, 2) := by decide +kernel
theorem dX12_mean_15 : decode cX12_mean 15 = .ok (.iload_n 2, 1) := by decide +kernel
theorem dX12_mean_16 : decode cX12_mean 16 = .ok (.istore 6, 2) := by decide +kernel
theorem dX12_mean_18 : decode cX12_mean 18 = .ok (.iload 6, 2) := by decide +kernel
theorem dX12_mean_20 : decode cX12_mean 20 = .ok (.iload_n 3, 1) := by decide +kernel
theorem dX12_mean_21 : decode cX12_mean 21 = .ok (.if_icmp .gt 22, 3) := by decide +kernel
theorem dX12_mean_24 : decode cX12_mean 24 = .ok (.lload 4, 2) := by decide +kernel
theorem dX12_mean_26 : decode cX12_mean 26 = .ok (.aload_n 0, 1) := by decide +kernel
theorem dX12_mean_27 : decode cX12_mean 27 = .ok (.iload_n 1, 1) := by decide +kernel
theorem dX12_mean_28 : decode cX12_mean 28 = .ok (.iload 6, 2) := by decide +kernel
theorem dX12_mean_30 : decode cX12_mean 30 = .ok (.invokevirtual 133, 3) := by decide +kernel
theorem dX12_mean_33 : decode cX12_mean 33 = .ok (.i2l, 1) := by decide +kernel
theorem dX12_mean_34 : decode cX12_mean 34 = .ok (.ladd, 1) := by decide +kernel
theorem dX12_mean_35 : decode cX12_mean 35 = .ok (.lstore 4, 2) := by decide +kernel
theorem dX12_mean_37 : decode cX12_mean 37 = .ok (.iinc 6 1, 3) := by decide +kernel
theorem dX12_mean_40 : decode cX12_mean 40 = .ok (.goto (-22), 3) := by decide +kernel
theorem dX12_mean_43 : decode cX12_mean 43 = .ok (.lload 4, 2) := by decide +kernel
theorem dX12_mean_45 : decode cX12_mean 45 = .ok (.l2d, 1) := by decide +kernel
theorem dX12_mean_46 : decode cX12_mean 46 = .ok (.ldc2_w 140, 3) := by decide +kernel
theorem dX12_mean_49 : decode cX12_mean 49 = .ok (.iload_n 3, 1) := by decide +kernel
theorem dX12_mean_50 : decode cX12_mean 50 = .ok (.iload_n 2, 1) := by decide +kernel
theorem dX12_mean_51 : decode cX12_mean 51 = .ok (.isub, 1) := by decide +kernel
theorem dX12_mean_52 : decode cX12_mean 52 = .ok (.iconst 1, 1) := by decide +kernel
theorem dX12_mean_53 : decode cX12_mean 53 = .ok (.iadd, 1) := by decide +kernel
theorem dX12_mean_54 : decode cX12_mean 54 = .ok (.i2d, 1) := by decide +kernel
theorem dX12_mean_55 : decode cX12_mean 55 = .ok (.dmul, 1) := by decide +kernel
theorem dX12_mean_56 : decode cX12_mean 56 = .ok (.ddiv, 1) := by decide +kernel
theorem dX12_mean_57 : decode cX12_mean 57 = .ok (.dreturn, 1) := by decide +kernel
theorem dX12_extreme_0 : decode cX12_extreme 0 = .ok (.iload_n 1, 1) := by decide +kernel
theorem dX12_extreme_1 : decode cX12_extreme 1 = .ok (.invokestatic 74, 3) := by decide +kernel
theorem dX12_extreme_4 : decode cX12_extreme 4 = .ok (.ifCond .ne 6, 3) := by decide +kernel
theorem dX12_extreme_7 : decode cX12_extreme 7 = .ok (.ldc 131, 2) := by decide +kernel
theorem dX12_extreme_9 : decode cX12_extreme 9 = .ok (.ireturn, 1) := by decide +kernel
theorem dX12_extreme_10 : decode cX12_extreme 10 = .ok (.iload_n 2, 1) := by decide +kernel
theorem dX12_extreme_11 : decode cX12_extreme 11 = .ok (.iconst 0, 1) := by decide +kernel
theorem dX12_extreme_12 : decode cX12_extreme 12 = .ok (.sipush 960, 3) := by decide +kernel
theorem dX12_extreme_15 : decode cX12_extreme 15 = .ok (.invokestatic 66, 3) := by decide +kernel
theorem dX12_extreme_18 : decode cX12_extreme 18 = .ok (.ifCond .eq 14, 3) := by decide +kernel
theorem dX12_extreme_21 : decode cX12_extreme 21 = .ok (.iload_n 3, 1) := by decide +kernel
theorem dX12_extreme_22 : decode cX12_extreme 22 = .ok (.iload_n 2, 1) := by decide +kernel
theorem dX12_extreme_23 : decode cX12_extreme 23 = .ok (.sipush 960, 3) := by decide +kernel
theorem dX12_extreme_26 : decode cX12_extreme 26 = .ok (.invokestatic 66, 3) := by decide +kernel
theorem dX12_extreme_29 : decode cX12_extreme 29 = .ok (.ifCond .ne 6, 3) := by decide +kernel
theorem dX12_extreme_32 : decode cX12_extreme 32 = .ok (.ldc 132, 2) := by decide +kernel
theorem dX12_extreme_34 : decode cX12_extreme 34 = .ok (.ireturn, 1) := by decide +kernel
theorem dX12_extreme_35 : decode cX12_extreme 35 = .ok (.aload_n 0, 1) := by decide +kernel
theorem dX12_extreme_36 : decode cX12_extreme 36 = .ok (.iload_n 1, 1) := by decide +kernel
theorem dX12_extreme_37 : decode cX12_extreme 37 = .ok (.invokevirtual 78, 3) := by decide +kernel
theorem dX12_extreme_40 : decode cX12_extreme 40 = .ok (.ifCond .ne 6, 3) := by decide +kernel
theorem dX12_extreme_43 : decode cX12_extreme 43 = .ok (.ldc 90, 2) := by decide +kernel
theorem dX12_extreme_45 : decode cX12_extreme 45 = .ok (.ireturn, 1) := by decide +kernel
theorem dX12_extreme_46 : decode cX12_extreme 46 = .ok (.iload_n 2, 1) := by decide +kernel
theorem dX12_extreme_47 : decode cX12_extreme 47 = .ok (.istore 5, 2) := by decide +kernel
theorem dX12_extreme_49 : decode cX12_extreme 49 = .ok (.aload_n 0, 1) := by decide +kernel
theorem dX12_extreme_50 : decode cX12_extreme 50 = .ok (.iload_n 1, 1) := by decide +kernel
theorem dX12_extreme_51 : decode cX12_extreme 51 = .ok (.iload_n 2, 1) := by decide +kernel
theorem dX12_extreme_52 : decode cX12_extreme 52 = .ok (.invokevirtual 133, 3) := by decide +kernel
theorem dX12_extreme_55 : decode cX12_extreme 55 = .ok (.istore 6, 2) := by decide +kernel
theorem dX12_extreme_57 : decode cX12_extreme 57 = .ok (.iload_n 2, 1) := by decide +kernel
theorem dX12_extreme_58 : decode cX12_extreme 58 = .ok (.iconst 1, 1) := by decide +kernel
theorem dX12_extreme_59 : decode cX12_extreme 59 = .ok (.iadd, 1) := by decide +kernel
theorem dX12_extreme_60 : decode cX12_extreme 60 = .ok (.istore 7, 2) := by decide +kernel
theorem dX12_extreme_62 : decode cX12_extreme 62 = .ok (.iload 7, 2) := by decide +kernel
theorem dX12_extreme_64 : decode cX12_extreme 64 = .ok (.iload_n 3, 1) := by decide +kernel
theorem dX12_extreme_65 : decode cX12_extreme 65 = .ok (.if_icmp .gt 48, 3) := by decide +kernel
theorem dX12_extreme_68 : decode cX12_extreme 68 = .ok (.aload_n 0, 1) := by decide +kernel
theorem dX12_extreme_69 : decode cX12_extreme 69 = .ok (.iload_n 1, 1) := by decide +kernel
theorem dX12_extreme_70 : decode cX12_extreme 70 = .ok (.iload 7, 2) := by decide +kernel
theorem dX12_extreme_72 : decode cX12_extreme 72 = .ok (.invokevirtual 133, 3) := by decide +kernel
theorem dX12_extreme_75 : decode cX12_extreme 75 = .ok (.istore 8, 2) := by decide +kernel
theorem dX12_extreme_77 : decode cX12_extreme 77 = .ok (.iload 4, 2) := by decide +kernel
theorem dX12_extreme_79 : decode cX12_extreme 79 = .ok (.ifCond .eq 13, 3) := by decide +kernel
theorem dX12_extreme_82 : decode cX12_extreme 82 = .ok (.iload 8, 2) := by decide +kernel
theorem dX12_extreme_84 : decode cX12_extreme 84 = .ok (.iload 6, 2) := by decide +kernel
theorem dX12_extreme_86 : decode cX12_extreme 86 = .ok (.if_icmp .le 21, 3) := by decide +kernel
theorem dX12_extreme_89 : decode cX12_extreme 89 = .ok (.goto 10, 3) := by decide +kernel
theorem dX12_extreme_92 : decode cX12_extreme 92 = .ok (.iload 8, 2) := by decide +kernel
theorem dX12_extreme_94 : decode cX12_extreme 94 = .ok (.iload 6, 2) := by decide +kernel
theorem dX12_extreme_96 : decode cX12_extreme 96 = .ok (.if_icmp .ge 11, 3) := by decide +kernel
theorem dX12_extreme_99 : decode cX12_extreme 99 = .ok (.iload 7, 2) := by decide +kernel
theorem dX12_extreme_101 : decode cX12_extreme 101 = .ok (.istore 5, 2) := by decide +kernel
theorem dX12_extreme_103 : decode cX12_extreme 103 = .ok (.iload 8, 2) := by decide +kernel
theorem dX12_extreme_105 : decode cX12_extreme 105 = .ok (.istore 6, 2) := by decide +kernel
theorem dX12_extreme_107 : decode cX12_extreme 107 = .ok (.iinc 7 1, 3) := by decide +kernel
theorem dX12_extreme_110 : decode cX12_extreme 110 = .ok (.goto (-48), 3) := by decide +kernel
theorem dX12_extreme_113 : decode cX12_extreme 113 = .ok (.iload 5, 2) := by decide +kernel
theorem dX12_extreme_115 : decode cX12_extreme 115 = .ok (.ireturn, 1) := by decide +kernel
theorem dX12_crossings_0 : decode cX12_crossings 0 = .ok (.iload_n 1, 1) := by decide +kernel
theorem dX12_crossings_1 : decode cX12_crossings 1 = .ok (.invokestatic 74, 3) := by decide +kernel
theorem dX12_crossings_4 : decode cX12_crossings 4 = .ok (.ifCond .ne 6, 3) := by decide +kernel
theorem dX12_crossings_7 : decode cX12_crossings 7 = .ok (.ldc 131, 2) := by decide +kernel
theorem dX12_crossings_9 : decode cX12_crossings 9 = .ok (.ireturn, 1) := by decide +kernel
theorem dX12_crossings_10 : decode cX12_crossings 10 = .ok (.iload_n 2, 1) := by decide +kernel
theorem dX12_crossings_11 : decode cX12_crossings 11 = .ok (.iconst 0, 1) := by decide +kernel
theorem dX12_crossings_12 : decode cX12_crossings 12 = .ok (.sipush 960, 3) := by decide +kernel
theorem dX12_crossings_15 : decode cX12_crossings 15 = .ok (.invokestatic 66, 3) := by decide +kernel
theorem dX12_crossings_18 : decode cX12_crossings 18 = .ok (.ifCond .eq 28, 3) := by decide +kernel
theorem dX12_crossings_21 : decode cX12_crossings 21 = .ok (.iload_n 3, 1) := by decide +kernel
theorem dX12_crossings_22 : decode cX12_crossings 22 = .ok (.iload_n 2, 1) := by decide +kernel
theorem dX12_crossings_23 : decode cX12_crossings 23 = .ok (.sipush 960, 3) := by decide +kernel
theorem dX12_crossings_26 : decode cX12_crossings 26 = .ok (.invokestatic 66, 3) := by decide +kernel
theorem dX12_crossings_29 : decode cX12_crossings 29 = .ok (.ifCond .eq 17, 3) := by decide +kernel
theorem dX12_crossings_32 : decode cX12_crossings 32 = .ok (.iload 4, 2) := by decide +kernel
theorem dX12_crossings_34 : decode cX12_crossings 34 = .ok (.sipush (-999), 3) := by decide +kernel
theorem dX12_crossings_37 : decode cX12_crossings 37 = .ok (.sipush 999, 3) := by decide +kernel
theorem dX12_crossings_40 : decode cX12_crossings 40 = .ok (.invokestatic 66, 3) := by decide +kernel
theorem dX12_crossings_43 : decode cX12_crossings 43 = .ok (.ifCond .ne 6, 3) := by decide +kernel
theorem dX12_crossings_46 : decode cX12_crossings 46 = .ok (.ldc 132, 2) := by decide +kernel
theorem dX12_crossings_48 : decode cX12_crossings 48 = .ok (.ireturn, 1) := by decide +kernel
theorem dX12_crossings_49 : decode cX12_crossings 49 = .ok (.aload_n 0, 1) := by decide +kernel
theorem dX12_crossings_50 : decode cX12_crossings 50 = .ok (.iload_n 1, 1) := by decide +kernel
theorem dX12_crossings_51 : decode cX12_crossings 51 = .ok (.invokevirtual 78, 3) := by decide +kernel
theorem dX12_crossings_54 : decode cX12_crossings 54 = .ok (.ifCond .ne 6, 3) := by decide +kernel
theorem dX12_crossings_57 : decode cX12_crossings 57 = .ok (.ldc 90, 2) := by decide +kernel
theorem dX12_crossings_59 : decode cX12_crossings 59 = .ok (.ireturn, 1) := by decide +kernel
theorem dX12_crossings_60 : decode cX12_crossings 60 = .ok (.iconst 0, 1) := by decide +kernel
theorem dX12_crossings_61 : decode cX12_crossings 61 = .ok (.istore 5, 2) := by decide +kernel
theorem dX12_crossings_63 : decode cX12_crossings 63 = .ok (.iload_n 2, 1) := by decide +kernel
theorem dX12_crossings_64 : decode cX12_crossings 64 = .ok (.istore 6, 2) := by decide +kernel
theorem dX12_crossings_66 : decode cX12_crossings 66 = .ok (.iload 6, 2) := by decide +kernel
theorem dX12_crossings_68 : decode cX12_crossings 68 = .ok (.iload_n 3, 1) := by decide +kernel
theorem dX12_crossings_69 : decode cX12_crossings 69 = .ok (.if_icmp .ge 64, 3) := by decide +kernel
theorem dX12_crossings_72 : decode cX12_crossings 72 = .ok (.iload 5, 2) := by decide +kernel
theorem dX12_crossings_74 : decode cX12_crossings 74 = .ok (.aload_n 0, 1) := by decide +kernel
theorem dX12_crossings_75 : decode cX12_crossings 75 = .ok (.iload_n 1, 1) := by decide +kernel
theorem dX12_crossings_76 : decode cX12_crossings 76 = .ok (.iload 6, 2) := by decide +kernel
theorem dX12_crossings_78 : decode cX12_crossings 78 = .ok (.invokevirtual 133, 3) := by decide +kernel
theorem dX12_crossings_81 : decode cX12_crossings 81 = .ok (.bipush 64, 2) := by decide +kernel
theorem dX12_crossings_83 : decode cX12_crossings 83 = .ok (.iload 4, 2) := by decide +kernel
theorem dX12_crossings_85 : decode cX12_crossings 85 = .ok (.imul, 1) := by decide +kernel
theorem dX12_crossings_86 : decode cX12_crossings 86 = .ok (.if_icmp .ge 7, 3) := by decide +kernel
theorem dX12_crossings_89 : decode cX12_crossings 89 = .ok (.iconst 1, 1) := by decide +kernel
theorem dX12_crossings_90 : decode cX12_crossings 90 = .ok (.goto 4, 3) := by decide +kernel
theorem dX12_crossings_93 : decode cX12_crossings 93 = .ok (.iconst 0, 1) := by decide +kernel
theorem dX12_crossings_94 : decode cX12_crossings 94 = .ok (.aload_n 0, 1) := by decide +kernel
theorem dX12_crossings_95 : decode cX12_crossings 95 = .ok (.iload_n 1, 1) := by decide +kernel
theorem dX12_crossings_96 : decode cX12_crossings 96 = .ok (.iload 6, 2) := by decide +kernel
theorem dX12_crossings_98 : decode cX12_crossings 98 = .ok (.iconst 1, 1) := by decide +kernel
theorem dX12_crossings_99 : decode cX12_crossings 99 = .ok (.iadd, 1) := by decide +kernel
theorem dX12_crossings_100 : decode cX12_crossings 100 = .ok (.invokevirtual 133, 3) := by decide +kernel
theorem dX12_crossings_103 : decode cX12_crossings 103 = .ok (.bipush 64, 2) := by decide +kernel
theorem dX12_crossings_105 : decode cX12_crossings 105 = .ok (.iload 4, 2) := by decide +kernel
theorem dX12_crossings_107 : decode cX12_crossings 107 = .ok (.imul, 1) := by decide +kernel
theorem dX12_crossings_108 : decode cX12_crossings 108 = .ok (.if_icmp .ge 7, 3) := by decide +kernel
theorem dX12_crossings_111 : decode cX12_crossings 111 = .ok (.iconst 1, 1) := by decide +kernel
theorem dX12_crossings_112 : decode cX12_crossings 112 = .ok (.goto 4, 3) := by decide +kernel
theorem dX12_crossings_115 : decode cX12_crossings 115 = .ok (.iconst 0, 1) := by decide +kernel
theorem dX12_crossings_116 : decode cX12_crossings 116 = .ok (.if_icmp .eq 7, 3) := by decide +kernel
theorem dX12_crossings_119 : decode cX12_crossings 119 = .ok (.iconst 1, 1) := by decide +kernel
theorem dX12_crossings_120 : decode cX12_crossings 120 = .ok (.goto 4, 3) := by decide +kernel
theorem dX12_crossings_123 : decode cX12_crossings 123 = .ok (.iconst 0, 1) := by decide +kernel
theorem dX12_crossings_124 : decode cX12_crossings 124 = .ok (.iadd, 1) := by decide +kernel
theorem dX12_crossings_125 : decode cX12_crossings 125 = .ok (.istore 5, 2) := by decide +kernel
theorem dX12_crossings_127 : decode cX12_crossings 127 = .ok (.iinc 6 1, 3) := by decide +kernel
theorem dX12_crossings_130 : decode cX12_crossings 130 = .ok (.goto (-64), 3) := by decide +kernel
theorem dX12_crossings_133 : decode cX12_crossings 133 = .ok (.iload 5, 2) := by decide +kernel
theorem dX12_crossings_135 : decode cX12_crossings 135 = .ok (.ireturn, 1) := by decide +kernel
theorem dX12_inserts_0 : decode cX12_inserts 0 = .ok (.aload_n 0, 1) := by decide +kernel
theorem dX12_inserts_1 : decode cX12_inserts 1 = .ok (.iload_n 1, 1) := by decide +kernel
theorem dX12_inserts_2 : decode cX12_inserts 2 = .ok (.invokevirtual 78, 3) := by decide +kernel
theorem dX12_inserts_5 : decode cX12_inserts 5 = .ok (.istore 7, 2) := by decide +kernel
theorem dX12_inserts_7 : decode cX12_inserts 7 = .ok (.iload 7, 2) := by decide +kernel
theorem dX12_inserts_9 : decode cX12_inserts 9 = .ok (.ifCond .le 66, 3) := by decide +kernel
theorem dX12_inserts_12 : decode cX12_inserts 12 = .ok (.aload_n 0, 1) := by decide +kernel
theorem dX12_inserts_13 : decode cX12_inserts 13 = .ok (.iload_n 1, 1) := by decide +kernel
theorem dX12_inserts_14 : decode cX12_inserts 14 = .ok (.iload 7, 2) := by decide +kernel
theorem dX12_inserts_16 : decode cX12_inserts 16 = .ok (.iconst 1, 1) := by decide +kernel
theorem dX12_inserts_17 : decode cX12_inserts 17 = .ok (.isub, 1) := by decide +kernel
theorem dX12_inserts_18 : decode cX12_inserts 18 = .ok (.invokevirtual 82, 3) := by decide +kernel
theorem dX12_inserts_21 : decode cX12_inserts 21 = .ok (.iload_n 2, 1) := by decide +kernel
theorem dX12_inserts_22 : decode cX12_inserts 22 = .ok (.if_icmp .le 53, 3) := by decide +kernel
theorem dX12_inserts_25 : decode cX12_inserts 25 = .ok (.iconst 4, 1) := by decide +kernel
theorem dX12_inserts_26 : decode cX12_inserts 26 = .ok (.istore 8, 2) := by decide +kernel
theorem dX12_inserts_28 : decode cX12_inserts 28 = .ok (.iload 8, 2) := by decide +kernel
theorem dX12_inserts_30 : decode cX12_inserts 30 = .ok (.bipush 100, 2) := by decide +kernel
theorem dX12_inserts_32 : decode cX12_inserts 32 = .ok (.if_icmp .gt 37, 3) := by decide +kernel
theorem dX12_inserts_35 : decode cX12_inserts 35 = .ok (.aload_n 0, 1) := by decide +kernel
theorem dX12_inserts_36 : decode cX12_inserts 36 = .ok (.getfield 7, 3) := by decide +kernel
theorem dX12_inserts_39 : decode cX12_inserts 39 = .ok (.iload_n 1, 1) := by decide +kernel
theorem dX12_inserts_40 : decode cX12_inserts 40 = .ok (.iload 8, 2) := by decide +kernel
theorem dX12_inserts_42 : decode cX12_inserts 42 = .ok (.iload 7, 2) := by decide +kernel
theorem dX12_inserts_44 : decode cX12_inserts 44 = .ok (.invokestatic 70, 3) := by decide +kernel
theorem dX12_inserts_47 : decode cX12_inserts 47 = .ok (.aload_n 0, 1) := by decide +kernel
theorem dX12_inserts_48 : decode cX12_inserts 48 = .ok (.getfield 7, 3) := by decide +kernel
theorem dX12_inserts_51 : decode cX12_inserts 51 = .ok (.iload_n 1, 1) := by decide +kernel
theorem dX12_inserts_52 : decode cX12_inserts 52 = .ok (.iload 8, 2) := by decide +kernel
theorem dX12_inserts_54 : decode cX12_inserts 54 = .ok (.iload 7, 2) := by decide +kernel
theorem dX12_inserts_56 : decode cX12_inserts 56 = .ok (.iconst 1, 1) := by decide +kernel
theorem dX12_inserts_57 : decode cX12_inserts 57 = .ok (.isub, 1) := by decide +kernel
theorem dX12_inserts_58 : decode cX12_inserts 58 = .ok (.invokestatic 70, 3) := by decide +kernel
theorem dX12_inserts_61 : decode cX12_inserts 61 = .ok (.iaload, 1) := by decide +kernel
theorem dX12_inserts_62 : decode cX12_inserts 62 = .ok (.iastore, 1) := by decide +kernel
theorem dX12_inserts_63 : decode cX12_inserts 63 = .ok (.iinc 8 24, 3) := by decide +kernel
theorem dX12_inserts_66 : decode cX12_inserts 66 = .ok (.goto (-38), 3) := by decide +kernel
theorem dX12_inserts_69 : decode cX12_inserts 69 = .ok (.iinc 7 (-1), 3) := by decide +kernel
theorem dX12_inserts_72 : decode cX12_inserts 72 = .ok (.goto (-65), 3) := by decide +kernel
theorem dX12_inserts_75 : decode cX12_inserts 75 = .ok (.aload_n 0, 1) := by decide +kernel
theorem dX12_inserts_76 : decode cX12_inserts 76 = .ok (.getfield 7, 3) := by decide +kernel
theorem dX12_inserts_79 : decode cX12_inserts 79 = .ok (.iload_n 1, 1) := by decide +kernel
theorem dX12_inserts_80 : decode cX12_inserts 80 = .ok (.iconst 4, 1) := by decide +kernel
theorem dX12_inserts_81 : decode cX12_inserts 81 = .ok (.iload 7, 2) := by decide +kernel
theorem dX12_inserts_83 : decode cX12_inserts 83 = .ok (.invokestatic 70, 3) := by decide +kernel
theorem dX12_inserts_86 : decode cX12_inserts 86 = .ok (.iload_n 2, 1) := by decide +kernel
theorem dX12_inserts_87 : decode cX12_inserts 87 = .ok (.iastore, 1) := by decide +kernel
theorem dX12_inserts_88 : decode cX12_inserts 88 = .ok (.aload_n 0, 1) := by decide +kernel
theorem dX12_inserts_89 : decode cX12_inserts 89 = .ok (.getfield 7, 3) := by decide +kernel
theorem dX12_inserts_92 : decode cX12_inserts 92 = .ok (.iload_n 1, 1) := by decide +kernel
theorem dX12_inserts_93 : decode cX12_inserts 93 = .ok (.bipush 28, 2) := by decide +kernel
theorem dX12_inserts_95 : decode cX12_inserts 95 = .ok (.iload 7, 2) := by decide +kernel
theorem dX12_inserts_97 : decode cX12_inserts 97 = .ok (.invokestatic 70, 3) := by decide +kernel
theorem dX12_inserts_100 : decode cX12_inserts 100 = .ok (.iload_n 3, 1) := by decide +kernel
theorem dX12_inserts_101 : decode cX12_inserts 101 = .ok (.iastore, 1) := by decide +kernel
theorem dX12_inserts_102 : decode cX12_inserts 102 = .ok (.aload_n 0, 1) := by decide +kernel
theorem dX12_inserts_103 : decode cX12_inserts 103 = .ok (.getfield 7, 3) := by decide +kernel
theorem dX12_inserts_106 : decode cX12_inserts 106 = .ok (.iload_n 1, 1) := by decide +kernel
theorem dX12_inserts_107 : decode cX12_inserts 107 = .ok (.bipush 52, 2) := by decide +kernel
theorem dX12_inserts_109 : decode cX12_inserts 109 = .ok (.iload 7, 2) := by decide +kernel
theorem dX12_inserts_111 : decode cX12_inserts 111 = .ok (.invokestatic 70, 3) := by decide +kernel
theorem dX12_inserts_114 : decode cX12_inserts 114 = .ok (.iload 4, 2) := by decide +kernel
theorem dX12_inserts_116 : decode cX12_inserts 116 = .ok (.iastore, 1) := by decide +kernel
theorem dX12_inserts_117 : decode cX12_inserts 117 = .ok (.aload_n 0, 1) := by decide +kernel
theorem dX12_inserts_118 : decode cX12_inserts 118 = .ok (.getfield 7, 3) := by decide +kernel
theorem dX12_inserts_121 : decode cX12_inserts 121 = .ok (.iload_n 1, 1) := by decide +kernel
theorem dX12_inserts_122 : decode cX12_inserts 122 = .ok (.bipush 76, 2) := by decide +kernel
theorem dX12_inserts_124 : decode cX12_inserts 124 = .ok (.iload 7, 2) := by decide +kernel
theorem dX12_inserts_126 : decode cX12_inserts 126 = .ok (.invokestatic 70, 3) := by decide +kernel
theorem dX12_inserts_129 : decode cX12_inserts 129 = .ok (.iload 5, 2) := by decide +kernel
theorem dX12_inserts_131 : decode cX12_inserts 131 = .ok (.iastore, 1) := by decide +kernel
theorem dX12_inserts_132 : decode cX12_inserts 132 = .ok (.aload_n 0, 1) := by decide +kernel
theorem dX12_inserts_133 : decode cX12_inserts 133 = .ok (.getfield 7, 3) := by decide +kernel
theorem dX12_inserts_136 : decode cX12_inserts 136 = .ok (.iload_n 1, 1) := by decide +kernel
theorem dX12_inserts_137 : decode cX12_inserts 137 = .ok (.bipush 100, 2) := by decide +kernel
theorem dX12_inserts_139 : decode cX12_inserts 139 = .ok (.iload 7, 2) := by decide +kernel
theorem dX12_inserts_141 : decode cX12_inserts 141 = .ok (.invokestatic 70, 3) := by decide +kernel
theorem dX12_inserts_144 : decode cX12_inserts 144 = .ok (.iload 6, 2) := by decide +kernel
theorem dX12_inserts_146 : decode cX12_inserts 146 = .ok (.iastore, 1) := by decide +kernel
theorem dX12_inserts_147 : decode cX12_inserts 147 = .ok (.aload_n 0, 1) := by decide +kernel
theorem dX12_inserts_148 : decode cX12_inserts 148 = .ok (.getfield 7, 3) := by decide +kernel
theorem dX12_inserts_151 : decode cX12_inserts 151 = .ok (.iload_n 1, 1) := by decide +kernel
theorem dX12_inserts_152 : decode cX12_inserts 152 = .ok (.iconst 0, 1) := by decide +kernel
theorem dX12_inserts_153 : decode cX12_inserts 153 = .ok (.iconst 0, 1) := by decide +kernel
theorem dX12_inserts_154 : decode cX12_inserts 154 = .ok (.invokestatic 70, 3) := by decide +kernel
theorem dX12_inserts_157 : decode cX12_inserts 157 = .ok (.dup2, 1) := by decide +kernel
theorem dX12_inserts_158 : decode cX12_inserts 158 = .ok (.iaload, 1) := by decide +kernel
theorem dX12_inserts_159 : decode cX12_inserts 159 = .ok (.iconst 1, 1) := by decide +kernel
theorem dX12_inserts_160 : decode cX12_inserts 160 = .ok (.iadd, 1) := by decide +kernel
theorem dX12_inserts_161 : decode cX12_inserts 161 = .ok (.iastore, 1) := by decide +kernel
theorem dX12_inserts_162 : decode cX12_inserts 162 = .ok (.iload 7, 2) := by decide +kernel
theorem dX12_inserts_164 : decode cX12_inserts 164 = .ok (.ireturn, 1) := by decide +kernel
theorem dX12_removes_0 : decode cX12_removes 0 = .ok (.aload_n 0, 1) := by decide +kernel
theorem dX12_removes_1 : decode cX12_removes 1 = .ok (.getfield 7, 3) := by decide +kernel
theorem dX12_removes_4 : decode cX12_removes 4 = .ok (.iload_n 1, 1) := by decide +kernel
theorem dX12_removes_5 : decode cX12_removes 5 = .ok (.iconst 0, 1) := by decide +kernel
theorem dX12_removes_6 : decode cX12_removes 6 = .ok (.iconst 0, 1) := by decide +kernel
theorem dX12_removes_7 : decode cX12_removes 7 = .ok (.invokestatic 70, 3) := by decide +kernel
theorem dX12_removes_10 : decode cX12_removes 10 = .ok (.dup2, 1) := by decide +kernel
theorem dX12_removes_11 : decode cX12_removes 11 = .ok (.iaload, 1) := by decide +kernel
theorem dX12_removes_12 : decode cX12_removes 12 = .ok (.iconst 1, 1) := by decide +kernel
theorem dX12_removes_13 : decode cX12_removes 13 = .ok (.isub, 1) := by decide +kernel
theorem dX12_removes_14 : decode cX12_removes 14 = .ok (.iastore, 1) := by decide +kernel
theorem dX12_removes_15 : decode cX12_removes 15 = .ok (.iload_n 2, 1) := by decide +kernel
theorem dX12_removes_16 : decode cX12_removes 16 = .ok (.istore_n 3, 1) := by decide +kernel
theorem dX12_removes_17 : decode cX12_removes 17 = .ok (.iload_n 3, 1) := by decide +kernel
theorem dX12_removes_18 : decode cX12_removes 18 = .ok (.aload_n 0, 1) := by decide +kernel
theorem dX12_removes_19 : decode cX12_removes 19 = .ok (.iload_n 1, 1) := by decide +kernel
theorem dX12_removes_20 : decode cX12_removes 20 = .ok (.invokevirtual 78, 3) := by decide +kernel
theorem dX12_removes_23 : decode cX12_removes 23 = .ok (.if_icmp .ge 51, 3) := by decide +kernel
theorem dX12_removes_26 : decode cX12_removes 26 = .ok (.iconst 4, 1) := by decide +kernel
theorem dX12_removes_27 : decode cX12_removes 27 = .ok (.istore 4, 2) := by decide +kernel
theorem dX12_removes_29 : decode cX12_removes 29 = .ok (.iload 4, 2) := by decide +kernel
theorem dX12_removes_31 : decode cX12_removes 31 = .ok (.bipush 100, 2) := by decide +kernel
theorem dX12_removes_33 : decode cX12_removes 33 = .ok (.if_icmp .gt 35, 3) := by decide +kernel
theorem dX12_removes_36 : decode cX12_removes 36 = .ok (.aload_n 0, 1) := by decide +kernel
theorem dX12_removes_37 : decode cX12_removes 37 = .ok (.getfield 7, 3) := by decide +kernel
theorem dX12_removes_40 : decode cX12_removes 40 = .ok (.iload_n 1, 1) := by decide +kernel
theorem dX12_removes_41 : decode cX12_removes 41 = .ok (.iload 4, 2) := by decide +kernel
theorem dX12_removes_43 : decode cX12_removes 43 = .ok (.iload_n 3, 1) := by decide +kernel
theorem dX12_removes_44 : decode cX12_removes 44 = .ok (.invokestatic 70, 3) := by decide +kernel
theorem dX12_removes_47 : decode cX12_removes 47 = .ok (.aload_n 0, 1) := by decide +kernel
theorem dX12_removes_48 : decode cX12_removes 48 = .ok (.getfield 7, 3) := by decide +kernel
theorem dX12_removes_51 : decode cX12_removes 51 = .ok (.iload_n 1, 1) := by decide +kernel
theorem dX12_removes_52 : decode cX12_removes 52 = .ok (.iload 4, 2) := by decide +kernel
theorem dX12_removes_54 : decode cX12_removes 54 = .ok (.iload_n 3, 1) := by decide +kernel
theorem dX12_removes_55 : decode cX12_removes 55 = .ok (.iconst 1, 1) := by decide +kernel
theorem dX12_removes_56 : decode cX12_removes 56 = .ok (.iadd, 1) := by decide +kernel
theorem dX12_removes_57 : decode cX12_removes 57 = .ok (.invokestatic 70, 3) := by decide +kernel
theorem dX12_removes_60 : decode cX12_removes 60 = .ok (.iaload, 1) := by decide +kernel
theorem dX12_removes_61 : decode cX12_removes 61 = .ok (.iastore, 1) := by decide +kernel
theorem dX12_removes_62 : decode cX12_removes 62 = .ok (.iinc 4 24, 3) := by decide +kernel
theorem dX12_removes_65 : decode cX12_removes 65 = .ok (.goto (-36), 3) := by decide +kernel
theorem dX12_removes_68 : decode cX12_removes 68 = .ok (.iinc 3 1, 3) := by decide +kernel
theorem dX12_removes_71 : decode cX12_removes 71 = .ok (.goto (-54), 3) := by decide +kernel
theorem dX12_removes_74 : decode cX12_removes 74 = .ok (.return_, 1) := by decide +kernel
theorem dX12_setKey_0 : decode cX12_setKey 0 = .ok (.iload_n 1, 1) := by decide +kernel
theorem dX12_setKey_1 : decode cX12_setKey 1 = .ok (.invokestatic 74, 3) := by decide +kernel
theorem dX12_setKey_4 : decode cX12_setKey 4 = .ok (.ifCond .ne 6, 3) := by decide +kernel
theorem dX12_setKey_7 : decode cX12_setKey 7 = .ok (.ldc 131, 2) := by decide +kernel
theorem dX12_setKey_9 : decode cX12_setKey 9 = .ok (.ireturn, 1) := by decide +kernel
theorem dX12_setKey_10 : decode cX12_setKey 10 = .ok (.iload_n 2, 1) := by decide +kernel
theorem dX12_setKey_11 : decode cX12_setKey 11 = .ok (.iconst 0, 1) := by decide +kernel
theorem dX12_setKey_12 : decode cX12_setKey 12 = .ok (.sipush 480, 3) := by decide +kernel
theorem dX12_setKey_15 : decode cX12_setKey 15 = .ok (.invokestatic 66, 3) := by decide +kernel
theorem dX12_setKey_18 : decode cX12_setKey 18 = .ok (.ifCond .eq 16, 3) := by decide +kernel
theorem dX12_setKey_21 : decode cX12_setKey 21 = .ok (.iload_n 3, 1) := by decide +kernel
theorem dX12_setKey_22 : decode cX12_setKey 22 = .ok (.sipush (-999), 3) := by decide +kernel
theorem dX12_setKey_25 : decode cX12_setKey 25 = .ok (.sipush 999, 3) := by decide +kernel
theorem dX12_setKey_28 : decode cX12_setKey 28 = .ok (.invokestatic 66, 3) := by decide +kernel
theorem dX12_setKey_31 : decode cX12_setKey 31 = .ok (.ifCond .ne 6, 3) := by decide +kernel
theorem dX12_setKey_34 : decode cX12_setKey 34 = .ok (.ldc 132, 2) := by decide +kernel
theorem dX12_setKey_36 : decode cX12_setKey 36 = .ok (.ireturn, 1) := by decide +kernel
theorem dX12_setKey_37 : decode cX12_setKey 37 = .ok (.aload_n 0, 1) := by decide +kernel
theorem dX12_setKey_38 : decode cX12_setKey 38 = .ok (.iload_n 1, 1) := by decide +kernel
theorem dX12_setKey_39 : decode cX12_setKey 39 = .ok (.iload_n 2, 1) := by decide +kernel
theorem dX12_setKey_40 : decode cX12_setKey 40 = .ok (.invokevirtual 142, 3) := by decide +kernel
theorem dX12_setKey_43 : decode cX12_setKey 43 = .ok (.istore 4, 2) := by decide +kernel
theorem dX12_setKey_45 : decode cX12_setKey 45 = .ok (.iload 4, 2) := by decide +kernel
theorem dX12_setKey_47 : decode cX12_setKey 47 = .ok (.ifCond .ge 16, 3) := by decide +kernel
theorem dX12_setKey_50 : decode cX12_setKey 50 = .ok (.aload_n 0, 1) := by decide +kernel
theorem dX12_setKey_51 : decode cX12_setKey 51 = .ok (.iload_n 1, 1) := by decide +kernel
theorem dX12_setKey_52 : decode cX12_setKey 52 = .ok (.invokevirtual 78, 3) := by decide +kernel
theorem dX12_setKey_55 : decode cX12_setKey 55 = .ok (.bipush 24, 2) := by decide +kernel
theorem dX12_setKey_57 : decode cX12_setKey 57 = .ok (.if_icmp .ne 6, 3) := by decide +kernel
theorem dX12_setKey_60 : decode cX12_setKey 60 = .ok (.ldc 145, 2) := by decide +kernel
theorem dX12_setKey_62 : decode cX12_setKey 62 = .ok (.ireturn, 1) := by decide +kernel
theorem dX12_setKey_63 : decode cX12_setKey 63 = .ok (.aload_n 0, 1) := by decide +kernel
theorem dX12_setKey_64 : decode cX12_setKey 64 = .ok (.invokevirtual 146, 3) := by decide +kernel
theorem dX12_setKey_67 : decode cX12_setKey 67 = .ok (.iload 4, 2) := by decide +kernel
theorem dX12_setKey_69 : decode cX12_setKey 69 = .ok (.ifCond .ge 15, 3) := by decide +kernel
theorem dX12_setKey_72 : decode cX12_setKey 72 = .ok (.aload_n 0, 1) := by decide +kernel
theorem dX12_setKey_73 : decode cX12_setKey 73 = .ok (.iload_n 1, 1) := by decide +kernel
theorem dX12_setKey_74 : decode cX12_setKey 74 = .ok (.iload_n 2, 1) := by decide +kernel
theorem dX12_setKey_75 : decode cX12_setKey 75 = .ok (.iload_n 3, 1) := by decide +kernel
theorem dX12_setKey_76 : decode cX12_setKey 76 = .ok (.iconst 3, 1) := by decide +kernel
theorem dX12_setKey_77 : decode cX12_setKey 77 = .ok (.iconst 0, 1) := by decide +kernel
theorem dX12_setKey_78 : decode cX12_setKey 78 = .ok (.iconst 0, 1) := by decide +kernel
theorem dX12_setKey_79 : decode cX12_setKey 79 = .ok (.invokevirtual 149, 3) := by decide +kernel
theorem dX12_setKey_82 : decode cX12_setKey 82 = .ok (.istore 4, 2) := by decide +kernel
theorem dX12_setKey_84 : decode cX12_setKey 84 = .ok (.aload_n 0, 1) := by decide +kernel
theorem dX12_setKey_85 : decode cX12_setKey 85 = .ok (.getfield 7, 3) := by decide +kernel
theorem dX12_setKey_88 : decode cX12_setKey 88 = .ok (.iload_n 1, 1) := by decide +kernel
theorem dX12_setKey_89 : decode cX12_setKey 89 = .ok (.bipush 28, 2) := by decide +kernel
theorem dX12_setKey_91 : decode cX12_setKey 91 = .ok (.iload 4, 2) := by decide +kernel
theorem dX12_setKey_93 : decode cX12_setKey 93 = .ok (.invokestatic 70, 3) := by decide +kernel
theorem dX12_setKey_96 : decode cX12_setKey 96 = .ok (.iload_n 3, 1) := by decide +kernel
theorem dX12_setKey_97 : decode cX12_setKey 97 = .ok (.iastore, 1) := by decide +kernel
theorem dX12_setKey_98 : decode cX12_setKey 98 = .ok (.aload_n 0, 1) := by decide +kernel
theorem dX12_setKey_99 : decode cX12_setKey 99 = .ok (.iload_n 1, 1) := by decide +kernel
theorem dX12_setKey_100 : decode cX12_setKey 100 = .ok (.invokevirtual 78, 3) := by decide +kernel
theorem dX12_setKey_103 : decode cX12_setKey 103 = .ok (.ireturn, 1) := by decide +kernel
theorem dX12_removeKey_0 : decode cX12_removeKey 0 = .ok (.iload_n 1, 1) := by decide +kernel
theorem dX12_removeKey_1 : decode cX12_removeKey 1 = .ok (.invokestatic 74, 3) := by decide +kernel
theorem dX12_removeKey_4 : decode cX12_removeKey 4 = .ok (.ifCond .eq 12, 3) := by decide +kernel
theorem dX12_removeKey_7 : decode cX12_removeKey 7 = .ok (.aload_n 0, 1) := by decide +kernel
theorem dX12_removeKey_8 : decode cX12_removeKey 8 = .ok (.iload_n 1, 1) := by decide +kernel
theorem dX12_removeKey_9 : decode cX12_removeKey 9 = .ok (.iload_n 2, 1) := by decide +kernel
theorem dX12_removeKey_10 : decode cX12_removeKey 10 = .ok (.invokevirtual 142, 3) := by decide +kernel
theorem dX12_removeKey_13 : decode cX12_removeKey 13 = .ok (.goto 4, 3) := by decide +kernel
theorem dX12_removeKey_16 : decode cX12_removeKey 16 = .ok (.iconst (-1), 1) := by decide +kernel
theorem dX12_removeKey_17 : decode cX12_removeKey 17 = .ok (.istore_n 3, 1) := by decide +kernel
theorem dX12_removeKey_18 : decode cX12_removeKey 18 = .ok (.iload_n 3, 1) := by decide +kernel
theorem dX12_removeKey_19 : decode cX12_removeKey 19 = .ok (.ifCond .ge 6, 3) := by decide +kernel
theorem dX12_removeKey_22 : decode cX12_removeKey 22 = .ok (.ldc 131, 2) := by decide +kernel
theorem dX12_removeKey_24 : decode cX12_removeKey 24 = .ok (.ireturn, 1) := by decide +kernel
theorem dX12_removeKey_25 : decode cX12_removeKey 25 = .ok (.aload_n 0, 1) := by decide +kernel
theorem dX12_removeKey_26 : decode cX12_removeKey 26 = .ok (.invokevirtual 146, 3) := by decide +kernel
theorem dX12_removeKey_29 : decode cX12_removeKey 29 = .ok (.aload_n 0, 1) := by decide +kernel
theorem dX12_removeKey_30 : decode cX12_removeKey 30 = .ok (.iload_n 1, 1) := by decide +kernel
theorem dX12_removeKey_31 : decode cX12_removeKey 31 = .ok (.iload_n 3, 1) := by decide +kernel
theorem dX12_removeKey_32 : decode cX12_removeKey 32 = .ok (.invokevirtual 153, 3) := by decide +kernel
theorem dX12_removeKey_35 : decode cX12_removeKey 35 = .ok (.aload_n 0, 1) := by decide +kernel
theorem dX12_removeKey_36 : decode cX12_removeKey 36 = .ok (.iload_n 1, 1) := by decide +kernel
theorem dX12_removeKey_37 : decode cX12_removeKey 37 = .ok (.invokevirtual 78, 3) := by decide +kernel
theorem dX12_removeKey_40 : decode cX12_removeKey 40 = .ok (.ireturn, 1) := by decide +kernel
theorem dX12_moveKey_0 : decode cX12_moveKey 0 = .ok (.iload_n 1, 1) := by decide +kernel
theorem dX12_moveKey_1 : decode cX12_moveKey 1 = .ok (.invokestatic 74, 3) := by decide +kernel
theorem dX12_moveKey_4 : decode cX12_moveKey 4 = .ok (.ifCond .eq 12, 3) := by decide +kernel
theorem dX12_moveKey_7 : decode cX12_moveKey 7 = .ok (.aload_n 0, 1) := by decide +kernel
theorem dX12_moveKey_8 : decode cX12_moveKey 8 = .ok (.iload_n 1, 1) := by decide +kernel
theorem dX12_moveKey_9 : decode cX12_moveKey 9 = .ok (.iload_n 2, 1) := by decide +kernel
theorem dX12_moveKey_10 : decode cX12_moveKey 10 = .ok (.invokevirtual 142, 3) := by decide +kernel
theorem dX12_moveKey_13 : decode cX12_moveKey 13 = .ok (.goto 4, 3) := by decide +kernel
theorem dX12_moveKey_16 : decode cX12_moveKey 16 = .ok (.iconst (-1), 1) := by decide +kernel
theorem dX12_moveKey_17 : decode cX12_moveKey 17 = .ok (.istore 4, 2) := by decide +kernel
theorem dX12_moveKey_19 : decode cX12_moveKey 19 = .ok (.iload 4, 2) := by decide +kernel
theorem dX12_moveKey_21 : decode cX12_moveKey 21 = .ok (.ifCond .ge 6, 3) := by decide +kernel
theorem dX12_moveKey_24 : decode cX12_moveKey 24 = .ok (.ldc 131, 2) := by decide +kernel
theorem dX12_moveKey_26 : decode cX12_moveKey 26 = .ok (.ireturn, 1) := by decide +kernel
theorem dX12_moveKey_27 : decode cX12_moveKey 27 = .ok (.iload_n 3, 1) := by decide +kernel
theorem dX12_moveKey_28 : decode cX12_moveKey 28 = .ok (.iconst 0, 1) := by decide +kernel
theorem dX12_moveKey_29 : decode cX12_moveKey 29 = .ok (.sipush 480, 3) := by decide +kernel
theorem dX12_moveKey_32 : decode cX12_moveKey 32 = .ok (.invokestatic 66, 3) := by decide +kernel
theorem dX12_moveKey_35 : decode cX12_moveKey 35 = .ok (.ifCond .ne 6, 3) := by decide +kernel
theorem dX12_moveKey_38 : decode cX12_moveKey 38 = .ok (.ldc 132, 2) := by decide +kernel
theorem dX12_moveKey_40 : decode cX12_moveKey 40 = .ok (.ireturn, 1) := by decide +kernel
theorem dX12_moveKey_41 : decode cX12_moveKey 41 = .ok (.iload_n 3, 1) := by decide +kernel
theorem dX12_moveKey_42 : decode cX12_moveKey 42 = .ok (.iload_n 2, 1) := by decide +kernel
theorem dX12_moveKey_43 : decode cX12_moveKey 43 = .ok (.if_icmp .eq 15, 3) := by decide +kernel
theorem dX12_moveKey_46 : decode cX12_moveKey 46 = .ok (.aload_n 0, 1) := by decide +kernel
theorem dX12_moveKey_47 : decode cX12_moveKey 47 = .ok (.iload_n 1, 1) := by decide +kernel
theorem dX12_moveKey_48 : decode cX12_moveKey 48 = .ok (.iload_n 3, 1) := by decide +kernel
theorem dX12_moveKey_49 : decode cX12_moveKey 49 = .ok (.invokevirtual 142, 3) := by decide +kernel
theorem dX12_moveKey_52 : decode cX12_moveKey 52 = .ok (.ifCond .lt 6, 3) := by decide +kernel
theorem dX12_moveKey_55 : decode cX12_moveKey 55 = .ok (.ldc 157, 2) := by decide +kernel
theorem dX12_moveKey_57 : decode cX12_moveKey 57 = .ok (.ireturn, 1) := by decide +kernel
theorem dX12_moveKey_58 : decode cX12_moveKey 58 = .ok (.aload_n 0, 1) := by decide +kernel
theorem dX12_moveKey_59 : decode cX12_moveKey 59 = .ok (.invokevirtual 146, 3) := by decide +kernel
theorem dX12_moveKey_62 : decode cX12_moveKey 62 = .ok (.aload_n 0, 1) := by decide +kernel
theorem dX12_moveKey_63 : decode cX12_moveKey 63 = .ok (.getfield 7, 3) := by decide +kernel
theorem dX12_moveKey_66 : decode cX12_moveKey 66 = .ok (.iload_n 1, 1) := by decide +kernel
theorem dX12_moveKey_67 : decode cX12_moveKey 67 = .ok (.bipush 28, 2) := by decide +kernel
theorem dX12_moveKey_69 : decode cX12_moveKey 69 = .ok (.iload 4, 2) := by decide +kernel
theorem dX12_moveKey_71 : decode cX12_moveKey 71 = .ok (.invokestatic 70, 3) := by decide +kernel
theorem dX12_moveKey_74 : decode cX12_moveKey 74 = .ok (.iaload, 1) := by decide +kernel
theorem dX12_moveKey_75 : decode cX12_moveKey 75 = .ok (.istore 5, 2) := by decide +kernel
theorem dX12_moveKey_77 : decode cX12_moveKey 77 = .ok (.aload_n 0, 1) := by decide +kernel
theorem dX12_moveKey_78 : decode cX12_moveKey 78 = .ok (.getfield 7, 3) := by decide +kernel
theorem dX12_moveKey_81 : decode cX12_moveKey 81 = .ok (.iload_n 1, 1) := by decide +kernel
theorem dX12_moveKey_82 : decode cX12_moveKey 82 = .ok (.bipush 52, 2) := by decide +kernel
theorem dX12_moveKey_84 : decode cX12_moveKey 84 = .ok (.iload 4, 2) := by decide +kernel
theorem dX12_moveKey_86 : decode cX12_moveKey 86 = .ok (.invokestatic 70, 3) := by decide +kernel
theorem dX12_moveKey_89 : decode cX12_moveKey 89 = .ok (.iaload, 1) := by decide +kernel
theorem dX12_moveKey_90 : decode cX12_moveKey 90 = .ok (.istore 6, 2) := by decide +kernel
theorem dX12_moveKey_92 : decode cX12_moveKey 92 = .ok (.aload_n 0, 1) := by decide +kernel
theorem dX12_moveKey_93 : decode cX12_moveKey 93 = .ok (.getfield 7, 3) := by decide +kernel
theorem dX12_moveKey_96 : decode cX12_moveKey 96 = .ok (.iload_n 1, 1) := by decide +kernel
theorem dX12_moveKey_97 : decode cX12_moveKey 97 = .ok (.bipush 76, 2) := by decide +kernel
theorem dX12_moveKey_99 : decode cX12_moveKey 99 = .ok (.iload 4, 2) := by decide +kernel
theorem dX12_moveKey_101 : decode cX12_moveKey 101 = .ok (.invokestatic 70, 3) := by decide +kernel
theorem dX12_moveKey_104 : decode cX12_moveKey 104 = .ok (.iaload, 1) := by decide +kernel
theorem dX12_moveKey_105 : decode cX12_moveKey 105 = .ok (.istore 7, 2) := by decide +kernel
theorem dX12_moveKey_107 : decode cX12_moveKey 107 = .ok (.aload_n 0, 1) := by decide +kernel
theorem dX12_moveKey_108 : decode cX12_moveKey 108 = .ok (.getfield 7, 3) := by decide +kernel
theorem dX12_moveKey_111 : decode cX12_moveKey 111 = .ok (.iload_n 1, 1) := by decide +kernel
theorem dX12_moveKey_112 : decode cX12_moveKey 112 = .ok (.bipush 100, 2) := by decide +kernel
theorem dX12_moveKey_114 : decode cX12_moveKey 114 = .ok (.iload 4, 2) := by decide +kernel
theorem dX12_moveKey_116 : decode cX12_moveKey 116 = .ok (.invokestatic 70, 3) := by decide +kernel
theorem dX12_moveKey_119 : decode cX12_moveKey 119 = .ok (.iaload, 1) := by decide +kernel
theorem dX12_moveKey_120 : decode cX12_moveKey 120 = .ok (.istore 8, 2) := by decide +kernel
theorem dX12_moveKey_122 : decode cX12_moveKey 122 = .ok (.aload_n 0, 1) := by decide +kernel
theorem dX12_moveKey_123 : decode cX12_moveKey 123 = .ok (.iload_n 1, 1) := by decide +kernel
theorem dX12_moveKey_124 : decode cX12_moveKey 124 = .ok (.iload 4, 2) := by decide +kernel
theorem dX12_moveKey_126 : decode cX12_moveKey 126 = .ok (.invokevirtual 153, 3) := by decide +kernel
theorem dX12_moveKey_129 : decode cX12_moveKey 129 = .ok (.aload_n 0, 1) := by decide +kernel
theorem dX12_moveKey_130 : decode cX12_moveKey 130 = .ok (.iload_n 1, 1) := by decide +kernel
theorem dX12_moveKey_131 : decode cX12_moveKey 131 = .ok (.iload_n 3, 1) := by decide +kernel
theorem dX12_moveKey_132 : decode cX12_moveKey 132 = .ok (.iload 5, 2) := by decide +kernel
theorem dX12_moveKey_134 : decode cX12_moveKey 134 = .ok (.iload 6, 2) := by decide +kernel
theorem dX12_moveKey_136 : decode cX12_moveKey 136 = .ok (.iload 7, 2) := by decide +kernel
theorem dX12_moveKey_138 : decode cX12_moveKey 138 = .ok (.iload 8, 2) := by decide +kernel
theorem dX12_moveKey_140 : decode cX12_moveKey 140 = .ok (.invokevirtual 149, 3) := by decide +kernel
theorem dX12_moveKey_143 : decode cX12_moveKey 143 = .ok (.ireturn, 1) := by decide +kernel
theorem dX12_frees_0 : decode cX12_frees 0 = .ok (.aload_n 0, 1) := by decide +kernel
theorem dX12_frees_1 : decode cX12_frees 1 = .ok (.iload_n 1, 1) := by decide +kernel
theorem dX12_frees_2 : decode cX12_frees 2 = .ok (.iload_n 2, 1) := by decide +kernel
theorem dX12_frees_3 : decode cX12_frees 3 = .ok (.iconst 0, 1) := by decide +kernel
theorem dX12_frees_4 : decode cX12_frees 4 = .ok (.invokevirtual 122, 3) := by decide +kernel
theorem dX12_frees_7 : decode cX12_frees 7 = .ok (.i2l, 1) := by decide +kernel
theorem dX12_frees_8 : decode cX12_frees 8 = .ok (.sipush 9999, 3) := by decide +kernel
theorem dX12_frees_11 : decode cX12_frees 11 = .ok (.invokestatic 108, 3) := by decide +kernel
theorem dX12_frees_14 : decode cX12_frees 14 = .ok (.istore_n 3, 1) := by decide +kernel
theorem dX12_frees_15 : decode cX12_frees 15 = .ok (.aload_n 0, 1) := by decide +kernel
theorem dX12_frees_16 : decode cX12_frees 16 = .ok (.iload_n 1, 1) := by decide +kernel
theorem dX12_frees_17 : decode cX12_frees 17 = .ok (.iload_n 2, 1) := by decide +kernel
theorem dX12_frees_18 : decode cX12_frees 18 = .ok (.iconst 1, 1) := by decide +kernel
theorem dX12_frees_19 : decode cX12_frees 19 = .ok (.invokevirtual 122, 3) := by decide +kernel
theorem dX12_frees_22 : decode cX12_frees 22 = .ok (.i2l, 1) := by decide +kernel
theorem dX12_frees_23 : decode cX12_frees 23 = .ok (.sipush 9999, 3) := by decide +kernel
theorem dX12_frees_26 : decode cX12_frees 26 = .ok (.invokestatic 108, 3) := by decide +kernel
theorem dX12_frees_29 : decode cX12_frees 29 = .ok (.istore 4, 2) := by decide +kernel
theorem dX12_frees_31 : decode cX12_frees 31 = .ok (.aload_n 0, 1) := by decide +kernel
theorem dX12_frees_32 : decode cX12_frees 32 = .ok (.getfield 7, 3) := by decide +kernel
theorem dX12_frees_35 : decode cX12_frees 35 = .ok (.iload_n 1, 1) := by decide +kernel
theorem dX12_frees_36 : decode cX12_frees 36 = .ok (.bipush 76, 2) := by decide +kernel
theorem dX12_frees_38 : decode cX12_frees 38 = .ok (.iload_n 2, 1) := by decide +kernel
theorem dX12_frees_39 : decode cX12_frees 39 = .ok (.invokestatic 70, 3) := by decide +kernel
theorem dX12_frees_42 : decode cX12_frees 42 = .ok (.iload_n 3, 1) := by decide +kernel
theorem dX12_frees_43 : decode cX12_frees 43 = .ok (.iastore, 1) := by decide +kernel
theorem dX12_frees_44 : decode cX12_frees 44 = .ok (.aload_n 0, 1) := by decide +kernel
theorem dX12_frees_45 : decode cX12_frees 45 = .ok (.getfield 7, 3) := by decide +kernel
theorem dX12_frees_48 : decode cX12_frees 48 = .ok (.iload_n 1, 1) := by decide +kernel
theorem dX12_frees_49 : decode cX12_frees 49 = .ok (.bipush 100, 2) := by decide +kernel
theorem dX12_frees_51 : decode cX12_frees 51 = .ok (.iload_n 2, 1) := by decide +kernel
theorem dX12_frees_52 : decode cX12_frees 52 = .ok (.invokestatic 70, 3) := by decide +kernel
theorem dX12_frees_55 : decode cX12_frees 55 = .ok (.iload 4, 2) := by decide +kernel
theorem dX12_frees_57 : decode cX12_frees 57 = .ok (.iastore, 1) := by decide +kernel
theorem dX12_frees_58 : decode cX12_frees 58 = .ok (.aload_n 0, 1) := by decide +kernel
theorem dX12_frees_59 : decode cX12_frees 59 = .ok (.getfield 7, 3) := by decide +kernel
theorem dX12_frees_62 : decode cX12_frees 62 = .ok (.iload_n 1, 1) := by decide +kernel
theorem dX12_frees_63 : decode cX12_frees 63 = .ok (.bipush 52, 2) := by decide +kernel
theorem dX12_frees_65 : decode cX12_frees 65 = .ok (.iload_n 2, 1) := by decide +kernel
theorem dX12_frees_66 : decode cX12_frees 66 = .ok (.invokestatic 70, 3) := by decide +kernel
theorem dX12_frees_69 : decode cX12_frees 69 = .ok (.iconst 0, 1) := by decide +kernel
theorem dX12_frees_70 : decode cX12_frees 70 = .ok (.iastore, 1) := by decide +kernel
theorem dX12_frees_71 : decode cX12_frees 71 = .ok (.return_, 1) := by decide +kernel
